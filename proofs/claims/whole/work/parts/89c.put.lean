/-! put -/
theorem dv_snoc_s {l : List Int32} {x : Int32} (h : ¬ (x < 0 ∧ x ∉ dv l)) : dv (l ++ [x]) = dv l := by
  unfold dv at h ⊢
  rw [dvs_app]
  simp [dvs, h]
theorem dv_snoc_n {l : List Int32} {x : Int32} (h : x < 0 ∧ x ∉ dv l) : dv (l ++ [x]) = dv l ++ [x] := by
  unfold dv at h ⊢
  rw [dvs_app]
  simp [dvs, h]
theorem vl_snoc_n {l : List Int32} {x : Int32} (h : x < 0) : vl (l ++ [x]) = vl l ++ [x] := by
  unfold vl
  rw [List.filter_append]
  simp [h]
theorem vl_snoc_s {l : List Int32} {x : Int32} (h : ¬ x < 0) : vl (l ++ [x]) = vl l := by
  unfold vl
  rw [List.filter_append]
  simp [h]
theorem getD_snoc_l {l : List Int32} {x : Int32} {k : Nat} (h : k < l.length) : (l ++ [x]).getD k 0 = l.getD k 0 := by
  rw [List.getD_eq_getElem?_getD, List.getD_eq_getElem?_getD, List.getElem?_append_left h]
theorem getD_snoc_r {l : List Int32} {x : Int32} : (l ++ [x]).getD l.length 0 = x := by
  rw [List.getD_eq_getElem?_getD, List.getElem?_append_right (Nat.le_refl _), Nat.sub_self]
  rfl
theorem dv_vl_len (l : List Int32) : (dv l).length ≤ (vl l).length := by
  have h1 := dvs_len l []
  unfold dv vl
  simp only [List.length_nil] at h1
  omega
theorem RuleAt.fr {γ γ' : Nat → Nat → Int32} {G : Gm} {r : Nat} {l : List Int32} (h : RuleAt γ G r l) (h8 : l.length ≤ 8) (h4 : (dv l).length ≤ 4) (e3 : γ' 3 r = γ 3 r) (e6 : γ' 6 r = γ 6 r) (e4 : ∀ k, k < 8 → γ' 4 (8 * r + k) = γ 4 (8 * r + k)) (e5 : ∀ k, k < 8 → γ' 5 (8 * r + k) = γ 5 (8 * r + k)) (e7 : ∀ j, j < 4 → γ' 7 (4 * r + j) = γ 7 (4 * r + j)) : RuleAt γ' G r l :=
  ⟨by rw [e3]; exact h.1, fun k hk => by rw [e4 k (by omega), e5 k (by omega)]; exact h.2.1 k hk, by rw [e6]; exact h.2.2.1, fun j hj => by rw [e7 j (by omega)]; exact h.2.2.2 j hj⟩
theorem RuleAt.put {γ γ' : Nat → Nat → Int32} {G : Gm} {r : Nat} {l : List Int32} {x : Int32} (h : RuleAt γ G r l) (e3 : γ' 3 r = nI (l.length + 1)) (e4 : ∀ k, k < l.length → γ' 4 (8 * r + k) = γ 4 (8 * r + k)) (e4x : γ' 4 (8 * r + l.length) = x) (e5 : ∀ k, k < l.length → γ' 5 (8 * r + k) = γ 5 (8 * r + k)) (e5x : γ' 5 (8 * r + l.length) = if x < 0 then nI ((dv (l ++ [x])).idxOf x) else -1) (e6 : γ' 6 r = nI (dv (l ++ [x])).length) (e7 : ∀ j, j < (dv (l ++ [x])).length → γ' 7 (4 * r + j) = nI (sX G ((dv (l ++ [x])).getD j 0))) : RuleAt γ' G r (l ++ [x]) := by
  refine ⟨by rw [e3, List.length_append, List.length_singleton], fun k hk => ?_, e6, e7⟩
  rw [List.length_append, List.length_singleton] at hk
  by_cases c : k = l.length
  · rw [c, e4x, e5x, getD_snoc_r]
    exact ⟨rfl, rfl⟩
  · have hkl : k < l.length := by omega
    obtain ⟨q1, q2⟩ := h.2.1 k hkl
    rw [e4 k hkl, e5 k hkl, getD_snoc_l hkl]
    refine ⟨q1, ?_⟩
    rw [q2]
    by_cases n : l.getD k 0 < 0
    · rw [if_pos n, if_pos n]
      have hm : l.getD k 0 ∈ dv l := dv_mem.mpr ⟨getD_mem hkl, n⟩
      by_cases d : x < 0 ∧ x ∉ dv l
      · rw [dv_snoc_n d, idx_app hm]
      · rw [dv_snoc_s d]
    · rw [if_neg n, if_neg n]
theorem p_slot10 {N : Nat} {γ : Nat → Nat → Int32} {G : Gm} {nr : Nat} (hnr : nr < 30) (h2 : γ 0 2 = nI nr) {l : List Int32} (hl : l.length ≤ 8) (h : RuleAt γ G nr l) (x : Int32) (ky : Int32 → Option (Int32 × (Nat → Nat → Int32))) (kn : Option (Int32 × (Nat → Nat → Int32))) : ∀ (d k n : Nat), k + d = l.length → d < n → (∀ e, e < k → l.getD e 0 ≠ x) → (∃ e, e < l.length ∧ l.getD e 0 = x ∧ l_Gr_slotInBegun_10 N γ x (nI (nr * 8)) ky kn n (nI k) = ky (nI e)) ∨ (x ∉ l ∧ l_Gr_slotInBegun_10 N γ x (nI (nr * 8)) ky kn n (nI k) = kn) := by
  intro d
  induction d with
  | zero =>
    intro k n hk hn hne
    obtain ⟨n, rfl⟩ : ∃ m, n = m + 1 := ⟨n - 1, by omega⟩
    have : k = l.length := by omega
    subst this
    refine Or.inr ⟨?_, ?_⟩
    · intro hx
      obtain ⟨e, he, hx⟩ := List.getElem_of_mem hx
      apply hne e he
      rw [List.getD_eq_getElem?_getD, List.getElem?_eq_getElem he]
      exact hx
    · unfold l_Gr_slotInBegun_10 f_Gr_slotInBegun_10
      rw [h2, ck_n (by omega) (by omega), nI_clamp (by omega), h.1, if_pos (nI_le (Nat.le_refl _) (by omega))]
  | succ d ih =>
    intro k n hk hn hne
    obtain ⟨n, rfl⟩ : ∃ m, n = m + 1 := ⟨n - 1, by omega⟩
    have hkl : k < l.length := by omega
    have e4 := (h.2.1 k hkl).1
    rw [show 8 * nr + k = nr * 8 + k by omega] at e4
    obtain ⟨X, hX⟩ : ∃ X, X = l_Gr_slotInBegun_10 N γ x (nI (nr * 8)) ky kn (n + 1) (nI k) := ⟨_, rfl⟩
    rw [← hX]
    have step : X = f_Gr_slotInBegun_10 N (l_Gr_slotInBegun_10 N γ x (nI (nr * 8)) ky kn n) ky kn γ x (nI (nr * 8)) (nI k) := hX
    unfold f_Gr_slotInBegun_10 at step
    rw [h2, ck_n (by omega) (by omega), nI_clamp (by omega), h.1, if_neg (nI_ge hkl (by omega)), nI_add, ck_n (by omega) (by omega), nI_clamp (by omega), e4] at step
    by_cases c : l.getD k 0 = x
    · rw [if_pos c] at step
      exact Or.inl ⟨k, hkl, c, step⟩
    · rw [if_neg c, nm_d, nI_1] at step
      have ih' := ih (k + 1) n (by omega) (by omega) (fun e he => by
        by_cases q : e = k
        · rw [q]
          exact c
        · exact hne e (by omega))
      rw [← step] at ih'
      exact ih'
theorem p_slotIn {N : Nat} (hN : 9 ≤ N) {γ : Nat → Nat → Int32} {G : Gm} {nr : Nat} (hnr : nr < 30) (h2 : γ 0 2 = nI nr) (h1 : ∀ v, v < gV G → γ 1 v = nI (gvs G v)) (hV : gV G ≤ 20) {l : List Int32} (hl : l.length ≤ 8) (h : RuleAt γ G nr l) (h4 : (dv l).length < 4) {v : Nat} (hv : v < gV G) : ((vS v) ∈ dv l ∧ m_Gr_slotInBegun N γ (vS v) = some (nI ((dv l).idxOf (vS v)), γ)) ∨ ((vS v) ∉ dv l ∧ m_Gr_slotInBegun N γ (vS v) = some (nI (dv l).length, st2 (st2 γ 7 (4 * nr + (dv l).length) (nI (gvs G v))) 6 nr (nI ((dv l).length + 1)))) := by
  have hneg : vS v < 0 := vS_neg (by omega)
  have key := p_slot10 (N := N) hnr h2 hl h (vS v) (fun v3 => f_Gr_slotInBegun_35 N γ (nI (nr * 8)) v3) (f_Gr_slotInBegun_50 N γ (vS v)) l.length 0 N (by omega) (by omega) (fun e he => by omega)
  rw [nI_0] at key
  unfold m_Gr_slotInBegun f_Gr_slotInBegun_0
  rw [h2, nI_mul8, nm_d]
  rcases key with ⟨e, e1, e2, e3⟩ | ⟨e1, e2⟩
  · refine Or.inl ⟨dv_mem.mpr ⟨by rw [← e2]; exact getD_mem e1, hneg⟩, ?_⟩
    have e5 := (h.2.1 e e1).2
    rw [show 8 * nr + e = nr * 8 + e by omega, e2, if_pos hneg] at e5
    rw [e3]
    unfold f_Gr_slotInBegun_35
    rw [nI_add, ck_n (by omega) (by omega), nI_clamp (by omega), e5]
  · refine Or.inr ⟨fun q => e1 (dv_mem.mp q).1, ?_⟩
    rw [e2]
    unfold f_Gr_slotInBegun_50
    have e02 : st2 γ 7 (nr * 4 + (dv l).length) (nI (gvs G v)) 0 2 = nI nr := by rw [st2_aj _ _ _ _ (by decide)]; exact h2
    rw [h2, ck_n (by omega) (by omega), nI_clamp (by omega), h.2.2.1, nm_d, l_4, if_pos (of_eq_true (c_lt_t h4 (by omega))), vS_back (by omega), ck_n (by omega) (by omega), pk_mul, nI_add, ck_n (by omega) (by omega), nI_clamp (by omega), nI_clamp (by omega), h1 v hv, nm_d, e02, ck_n (by omega) (by omega), nI_clamp (by omega), nI_1, nm_d, show nr * 4 + (dv l).length = 4 * nr + (dv l).length by omega]
/-- what put does to the class's grammar, when it does something -/
theorem p_put84 {N : Nat} {γ1 : Nat → Nat → Int32} {nr len : Nat} (hnr : nr < 30) (hlen : len < 8) (h2 : γ1 0 2 = nI nr) (x sl : Int32) : f_Gr_putSymbol_84 N γ1 x (nI len) (nI (8 * nr + len)) (nI (8 * nr + len)) sl = some (nI (len + 1), if x < 0 then st2 (st2 (st2 (st2 γ1 5 (8 * nr + len) sl) 4 (8 * nr + len) x) 3 nr (nI (len + 1))) 0 4 (γ1 0 4 + 1) else st2 (st2 (st2 γ1 5 (8 * nr + len) sl) 4 (8 * nr + len) x) 3 nr (nI (len + 1))) := by
  have e02 : st2 (st2 γ1 5 (8 * nr + len) sl) 4 (8 * nr + len) x 0 2 = nI nr := by rw [st2_aj _ _ _ _ (by decide), st2_aj _ _ _ _ (by decide)]; exact h2
  unfold f_Gr_putSymbol_84
  rw [ck_n (by omega) (by omega), nI_clamp (by omega), nm_d, ck_n (by omega) (by omega), nm_d, e02, ck_n (by omega) (by omega), nI_clamp (by omega), nI_1, nm_d]
  by_cases c : x < 0
  · rw [if_neg (Int32.not_le.mpr c), if_pos c, nm_d, st2_aj _ _ _ _ (by decide), st2_aj _ _ _ _ (by decide), st2_aj _ _ _ _ (by decide)]
  · rw [if_pos (Int32.not_lt.mp c), if_neg c]
theorem q_put48 {N : Nat} {μ : Nat → Nat → Int32} {len : Nat} (hlen : len < 8) (h : μ 3 30 = nI len) (x : Int32) : f_Md_put_48 N μ x = some (nI (len + 1), st2 (st2 μ 4 (240 + len) x) 3 30 (nI (len + 1))) := by
  unfold f_Md_put_48
  have e3 : st2 μ 4 (240 + len) x 3 30 = nI len := by rw [st2_aj _ _ _ _ (by decide)]; exact h
  rw [ck30, t30, h, l_240, nI_add, ck_n (by omega) (by omega), nI_clamp (by omega), nm_d, ck30, ck30, e3, nI_1, nm_d, ck30, st2_s]
/-- the model after put -/
theorem MSt.put {μ : Nat → Nat → Int32} {G : Gm} {w t : List Int32} (h : MSt μ G w t) {len : Nat} (x : Int32) : MSt (st2 (st2 (st2 μ 0 0 0) 4 (240 + len) x) 3 30 (nI (len + 1))) G w t ∧ st2 (st2 (st2 μ 0 0 0) 4 (240 + len) x) 3 30 (nI (len + 1)) 0 13 = μ 0 13 := by
  have hR := h.1.1.2.2.1
  have ma : ∀ b, b ≠ 0 → b ≠ 3 → b ≠ 4 → st2 (st2 (st2 μ 0 0 0) 4 (240 + len) x) 3 30 (nI (len + 1)) b = μ b := fun b b0 b3 b4 => by rw [st2_a _ _ _ b3, st2_a _ _ _ b4, st2_a _ _ _ b0]
  have mk : ∀ k, k ≠ 0 → st2 (st2 (st2 μ 0 0 0) 4 (240 + len) x) 3 30 (nI (len + 1)) 0 k = μ 0 k := fun k k0 => by rw [st2_aj _ _ _ _ (by decide), st2_aj _ _ _ _ (by decide), st2_k _ _ _ k0]
  obtain ⟨⟨k1, k2, k3, k4, k5, k6⟩, n2, n3, n4⟩ := h
  refine ⟨⟨⟨k1, by rw [mk 1 (by decide)]; exact k2, by rw [mk 2 (by decide)]; exact k3, by rw [mk 4 (by decide)]; exact k4, fun v hv => by rw [ma 1 (by decide) (by decide) (by decide)]; exact k5 v hv, fun r hr => ⟨by rw [ma 2 (by decide) (by decide) (by decide)]; exact (k6 r hr).1, ?_⟩⟩, n2.same (mk 10 (by decide)) (ma 5 (by decide) (by decide) (by decide)), n3.same (mk 12 (by decide)) (ma 6 (by decide) (by decide) (by decide)), fun q => (n4 (by rw [mk 14 (by decide)] at q; exact q)).same (ma 5 (by decide) (by decide) (by decide)) (ma 7 (by decide) (by decide) (by decide)) (ma 8 (by decide) (by decide) (by decide)) (ma 9 (by decide) (by decide) (by decide))⟩, mk 13 (by decide)⟩
  obtain ⟨z1, z2, z3, z4⟩ := (k6 r hr).2
  refine ⟨z1, by rw [st2_k _ _ _ (by omega), st2_aj _ _ _ _ (by decide), st2_aj _ _ _ _ (by decide)]; exact z2, z3, fun k hk => ?_⟩
  rw [st2_aj _ _ _ _ (by decide), st2_k _ _ _ (by omega), st2_aj _ _ _ _ (by decide)]
  exact z4 k hk
theorem MdR.put {μ : Nat → Nat → Int32} {l : List Int32} (h : MdR μ 30 l) (hl : l.length < 8) (x : Int32) : MdR (st2 (st2 (st2 μ 0 0 0) 4 (240 + l.length) x) 3 30 (nI (l.length + 1))) 30 (l ++ [x]) := by
  refine ⟨by decide, by rw [st2_s, List.length_append, List.length_singleton], by simp; omega, fun k hk => ?_⟩
  rw [List.length_append, List.length_singleton] at hk
  rw [st2_aj _ _ _ _ (by decide)]
  by_cases c : k = l.length
  · rw [c, getD_snoc_r, st2_s]
  · rw [st2_k _ _ _ (by omega), st2_aj _ _ _ _ (by decide), getD_snoc_l (by omega)]
    exact h.2.2.2 k (by omega)
