/-! the class reads codes: awaited sorts in array 1 (bottom first), place of the fault at 0 6 -/
theorem g_hasCode_y {γ : Nat → Nat → Int32} {G : Gm} (h : GrOK γ G) {c : Int32} (k : hasC G c) : m_Gr_hasCode γ c = some 1 := by
  have h1 := h.1.2.2.1
  have h2 := h.1.2.1
  unfold m_Gr_hasCode f_Gr_hasCode_0
  rw [h.2.2.1, h.2.2.2.1]
  rcases k with ⟨r, hr, rfl⟩ | ⟨v, hv, rfl⟩
  · rw [if_neg (nI_nlt_neg (by omega) (by omega)), if_neg (nI_ge hr (by omega))]
  · rw [if_neg (neg_nI hv h2), if_neg (Int32.not_le.mpr (vS_lt_nI (by omega) (by omega)))]
theorem g_hasCode {γ : Nat → Nat → Int32} {G : Gm} (h : GrOK γ G) (c : Int32) : (hasC G c ∧ m_Gr_hasCode γ c = some 1) ∨ (¬ hasC G c ∧ m_Gr_hasCode γ c = some 0) := by
  have h1 := h.1.2.2.1
  have h2 := h.1.2.1
  by_cases k : hasC G c
  · exact Or.inl ⟨k, g_hasCode_y h k⟩
  · refine Or.inr ⟨k, ?_⟩
    unfold m_Gr_hasCode f_Gr_hasCode_0
    rw [h.2.2.1, h.2.2.2.1]
    by_cases c1 : c < -nI (gV G)
    · rw [if_pos c1]
    · rw [if_neg c1]
      by_cases c2 : nI (gR G) ≤ c
      · rw [if_pos c2]
      · exfalso
        apply k
        by_cases c3 : c < 0
        · right
          obtain ⟨v, hv, ev⟩ := neg_vS c3
          have d1 : ¬ c.toInt < (-nI (gV G)).toInt := fun q => c1 (Int32.lt_iff_toInt_lt.mpr q)
          rw [sb_negT (show gV G < 2 ^ 31 by omega)] at d1
          refine ⟨v, by omega, ?_⟩
          apply Int32.toInt_inj.mp
          rw [vS_t (by omega)]
          exact ev
        · left
          obtain ⟨j, hj, rfl⟩ := nI_of c3
          refine ⟨j, ?_, rfl⟩
          rw [i_le (by omega) hj] at c2
          omega
theorem g_sortC {γ : Nat → Nat → Int32} {G : Gm} (h : GrOK γ G) {c : Int32} (k : hasC G c) : m_Gr_sortOfCode γ c = some (nI (sC G c)) ∧ sC G c < 6 := by
  have h1 := h.1.2.2.1
  have h2 := h.1.2.1
  have h6 := h.1.1
  rcases k with ⟨r, hr, rfl⟩ | ⟨v, hv, rfl⟩
  · have := (h.1.2.2.2.2 r hr).1
    rw [sC_r (by omega)]
    exact ⟨g_sort_r h hr, by omega⟩
  · have := h.1.2.2.2.1 v hv
    rw [sC_n (by omega)]
    exact ⟨g_sort_v h hv, by omega⟩
theorem sl_len {G : Gm} (h : GOK G) {c : Int32} (k : hasC G c) : (slS G c).length ≤ 4 := by
  have h1 := h.2.2.1
  have h2 := h.2.1
  rcases k with ⟨r, hr, rfl⟩ | ⟨v, hv, rfl⟩
  · rw [sl_r (by omega), List.length_map]
    exact dv_le4 h hr
  · rw [sl_n (vS_neg (by omega))]
    simp
theorem p_awaitParts_14 {N : Nat} {γ : Nat → Nat → Int32} {G : Gm} (hG : GrOK γ G) {r : Nat} (hr : r < gR G) {q : List Nat} (hq : q.length + (dv (gry G r)).length ≤ 601) (kx : (Nat → Nat → Int32) → Int32 → Option (Int32 × (Nat → Nat → Int32))) : ∀ (j n : Nat) (ω : Nat → Nat → Int32), j ≤ (dv (gry G r)).length → j < n → StK ω 1 (q ++ ((slS G (nI r)).drop j).reverse) →
    ∃ ω', (∀ c, c ≠ 1 → ω' c = ω c) ∧ StK ω' 1 (q ++ (slS G (nI r)).reverse) ∧ l_Gw_awaitParts_14 N γ (nI r) kx n ω (nI (q.length + ((dv (gry G r)).length - j))) (dn j) = kx ω' (nI (q.length + (dv (gry G r)).length)) := by
  have h1 := hG.1.2.2.1
  have h4 := dv_le4 hG.1 hr
  have el : (slS G (nI r)).length = (dv (gry G r)).length := by rw [sl_r (by omega), List.length_map]
  intro j
  induction j with
  | zero =>
    intro n ω hj hn hs
    obtain ⟨m, rfl⟩ : ∃ m, n = m + 1 := ⟨n - 1, by omega⟩
    refine ⟨ω, fun _ _ => rfl, by simpa using hs, ?_⟩
    unfold l_Gw_awaitParts_14 f_Gw_awaitParts_14
    rw [if_pos (of_eq_true dn_neg), Nat.sub_zero]
  | succ j ih =>
    intro n ω hj hn hs
    obtain ⟨m, rfl⟩ : ∃ m, n = m + 1 := ⟨n - 1, by omega⟩
    have eq : (q ++ ((slS G (nI r)).drop (j + 1)).reverse).length = q.length + ((dv (gry G r)).length - (j + 1)) := by
      rw [List.length_append, List.length_reverse, List.length_drop, el]
    have hpush := hs.push ((slS G (nI r)).getD j 0)
    have e2 : q ++ ((slS G (nI r)).drop (j + 1)).reverse ++ [(slS G (nI r)).getD j 0] = q ++ ((slS G (nI r)).drop j).reverse := by
      rw [List.append_assoc]
      congr 1
      have : (slS G (nI r)).drop j = (slS G (nI r)).getD j 0 :: (slS G (nI r)).drop (j + 1) := by
        rw [List.getD_eq_getElem?_getD, List.getElem?_eq_getElem (by omega)]
        exact List.drop_eq_getElem_cons (by omega)
      rw [this, List.reverse_cons]
    rw [e2, eq] at hpush
    have esl : (slS G (nI r)).getD j 0 = sX G ((dv (gry G r)).getD j 0) := by
      rw [sl_r (by omega)]
      simp [List.getD_eq_getElem?_getD, show j < (dv (gry G r)).length by omega]
    rw [esl] at hpush
    obtain ⟨ω', f1, f2, f3⟩ := ih m (st2 ω 1 (q.length + ((dv (gry G r)).length - (j + 1))) (nI (sX G ((dv (gry G r)).getD j 0)))) (by omega) (by omega) hpush
    refine ⟨ω', fun c hc => by rw [f1 c hc, st2_a _ _ _ hc], f2, ?_⟩
    unfold l_Gw_awaitParts_14 f_Gw_awaitParts_14
    rw [dn_s, if_neg (nI_pos (by omega)), l_601, if_neg (nI_ge (by omega) (by omega)), g_slotSort hG hr (by omega), b1_some, ck_n (by omega) (by omega), nm_d, nI_clamp (by omega), nm_d, nI_1, nm_d, dn_m, show q.length + ((dv (gry G r)).length - (j + 1)) + 1 = q.length + ((dv (gry G r)).length - j) by omega]
    exact f3
theorem p_awaitParts {N : Nat} (hN : 6 ≤ N) {γ ω : Nat → Nat → Int32} {G : Gm} (hG : GrOK γ G) {c : Int32} (hc : hasC G c) {q : List Nat} (hq : q.length + (slS G c).length ≤ 601) (hs : StK ω 1 q) :
    ∃ ω', (∀ c, c ≠ 1 → ω' c = ω c) ∧ StK ω' 1 (q ++ (slS G c).reverse) ∧ m_Gw_awaitParts N ω γ c (nI q.length) = some (nI (q.length + (slS G c).length), ω') := by
  have h1 := hG.1.2.2.1
  have h2 := hG.1.2.1
  rcases hc with ⟨r, hr, rfl⟩ | ⟨v, hv, rfl⟩
  · have h4 := dv_le4 hG.1 hr
    have el : (slS G (nI r)).length = (dv (gry G r)).length := by rw [sl_r (by omega), List.length_map]
    rw [el] at hq
    obtain ⟨ω', f1, f2, f3⟩ := p_awaitParts_14 (N := N) hG hr hq (fun s_self v3 => f_Gw_awaitParts_51 N s_self γ v3) (dv (gry G r)).length N ω (Nat.le_refl _) (by omega) (by rw [← el, List.drop_length]; simpa using hs)
    refine ⟨ω', f1, f2, ?_⟩
    unfold m_Gw_awaitParts f_Gw_awaitParts_0
    rw [g_slots hG hr, b1_some, nm_d, el]
    rw [Nat.sub_self, Nat.add_zero] at f3
    exact f3
  · have hn : vS v < 0 := vS_neg (by omega)
    rw [sl_n hn]
    refine ⟨ω, fun _ _ => rfl, by simpa using hs, ?_⟩
    unfold m_Gw_awaitParts f_Gw_awaitParts_0
    rw [g_slots_neg hn, b1_some, nm_d, show (0 : Int32) - 1 = dn 0 from rfl]
    obtain ⟨m, rfl⟩ : ∃ m, N = m + 1 := ⟨N - 1, by omega⟩
    unfold l_Gw_awaitParts_14 f_Gw_awaitParts_14
    rw [if_pos (of_eq_true dn_neg)]
    rfl
theorem p_readCodes_12 {N n : Nat} (hN : 6 ≤ N) (hn : n ≤ 200) {γ π : Nat → Nat → Int32} {G : Gm} (hG : GrOK γ G) {cs : List Int32} (hp : SyL n π cs) :
    ∀ (d i f : Nat) (ω : Nat → Nat → Int32) (q : List Nat), i + d = cs.length → d < f → StK ω 1 q → q.length ≤ 1 + 3 * i → (∀ s, s ∈ q → s < 6) →
      ∃ ω' v pl, rdr G (cs.drop i) i q.reverse v pl ∧ (∀ c, c ≠ 0 → c ≠ 1 → ω' c = ω c) ∧ (∀ k, k ≠ 6 → ω' 0 k = ω 0 k) ∧ ω' 0 6 = nI pl ∧ l_Gw_readCodes_12 N n γ π (fun s_self => f_Gw_readCodes_39 N n s_self γ π) (fun s_self => f_Gw_readCodes_56 N n s_self γ π) (fun s_self => f_Gw_readCodes_76 N n s_self γ π) (fun s_self v3 => f_Gw_readCodes_92 N n s_self γ π v3) f ω (nI q.length) (nI i) = some (nI v, ω') := by
  have hl := hp.2.1
  intro d
  induction d with
  | zero =>
    intro i f ω q hi hf hs hq h6
    obtain ⟨f, rfl⟩ : ∃ m, f = m + 1 := ⟨f - 1, by omega⟩
    have : i = cs.length := by omega
    subst this
    rw [List.drop_length]
    obtain ⟨X, hX⟩ : ∃ X, X = l_Gw_readCodes_12 N n γ π (fun s_self => f_Gw_readCodes_39 N n s_self γ π) (fun s_self => f_Gw_readCodes_56 N n s_self γ π) (fun s_self => f_Gw_readCodes_76 N n s_self γ π) (fun s_self v3 => f_Gw_readCodes_92 N n s_self γ π v3) (f + 1) ω (nI q.length) (nI cs.length) := ⟨_, rfl⟩
    rw [← hX]
    have step : X = f_Gw_readCodes_92 N n ω γ π (nI q.length) := by
      rw [hX]
      unfold l_Gw_readCodes_12 f_Gw_readCodes_12
      rw [hp.1, if_pos (nI_le (Nat.le_refl _) (by omega))]
    unfold f_Gw_readCodes_92 at step
    rw [nm_d, hp.1] at step
    by_cases e : q = []
    · refine ⟨_, 0, cs.length, Or.inl ⟨by rw [e]; rfl, rfl, rfl⟩, fun c h0 _ => st2_a _ _ _ h0, fun k hk => st2_k _ _ _ hk, st2_s _ _ _ _, ?_⟩
      rw [step, e, List.length_nil, if_pos (of_eq_true (c_le0_t rfl))]
      rfl
    · refine ⟨_, 1, cs.length, Or.inr ⟨by simpa using e, rfl, rfl⟩, fun c h0 _ => st2_a _ _ _ h0, fun k hk => st2_k _ _ _ hk, st2_s _ _ _ _, ?_⟩
      have : 0 < q.length := List.length_pos_iff.mpr e
      rw [step, if_neg (of_eq_false (c_le0 this (by omega)))]
      rfl
  | succ d ih =>
    intro i f ω q hi hf hs hq h6
    obtain ⟨f, rfl⟩ : ∃ m, f = m + 1 := ⟨f - 1, by omega⟩
    have hil : i < cs.length := by omega
    have hdr : cs.drop i = cs.getD i 0 :: cs.drop (i + 1) := drop_getD hil
    obtain ⟨X, hX⟩ : ∃ X, X = l_Gw_readCodes_12 N n γ π (fun s_self => f_Gw_readCodes_39 N n s_self γ π) (fun s_self => f_Gw_readCodes_56 N n s_self γ π) (fun s_self => f_Gw_readCodes_76 N n s_self γ π) (fun s_self v3 => f_Gw_readCodes_92 N n s_self γ π v3) (f + 1) ω (nI q.length) (nI i) := ⟨_, rfl⟩
    rw [← hX]
    have step : X = f_Gw_readCodes_12 N n (l_Gw_readCodes_12 N n γ π (fun s_self => f_Gw_readCodes_39 N n s_self γ π) (fun s_self => f_Gw_readCodes_56 N n s_self γ π) (fun s_self => f_Gw_readCodes_76 N n s_self γ π) (fun s_self v3 => f_Gw_readCodes_92 N n s_self γ π v3) f) (fun s_self => f_Gw_readCodes_39 N n s_self γ π) (fun s_self => f_Gw_readCodes_56 N n s_self γ π) (fun s_self => f_Gw_readCodes_76 N n s_self γ π) (fun s_self v3 => f_Gw_readCodes_92 N n s_self γ π v3) ω γ π (nI q.length) (nI i) := hX
    unfold f_Gw_readCodes_12 at step
    rw [hp.1, if_neg (nI_ge hil (by omega)), hp.at (by omega) hil, b1_some, nm_d] at step
    rw [hdr]
    rcases q_cases q with rfl | ⟨q, s, rfl⟩
    · rw [List.length_nil, if_pos nI_0] at step
      exact ⟨_, 4, i, ⟨rfl, rfl⟩, fun c h0 _ => st2_a _ _ _ h0, fun k hk => st2_k _ _ _ hk, st2_s _ _ _ _, by rw [step]; rfl⟩
    · have hql : (q ++ [s]).length = q.length + 1 := by simp
      rw [hql] at hq
      rw [hql, if_neg (nI_ne0 (by omega) (by omega)), nm_d, n_addm1 (by omega), show q.length + 1 - 1 = q.length by omega] at step
      rw [List.reverse_append, List.reverse_cons, List.reverse_nil, List.nil_append, List.singleton_append]
      rcases g_hasCode hG (cs.getD i 0) with ⟨hc, e⟩ | ⟨hc, e⟩
      · obtain ⟨s1, s2⟩ := g_sortC hG hc
        have top : st2 ω 0 6 (nI i) 1 q.length = nI s := by
          rw [st2_aj _ _ _ _ (by decide)]
          exact hs.top
        have hs6 := h6 s (by simp)
        rw [e, b1_some, if_neg (by decide), s1, b1_some, ck_n (by omega) (by omega), nI_clamp (by omega), top] at step
        have hsl := sl_len hG.1 hc
        by_cases es : sC G (cs.getD i 0) = s
        · have hst : StK (st2 ω 0 6 (nI i)) 1 q := by
            intro k hk
            rw [st2_aj _ _ _ _ (by decide)]
            exact hs.pop k hk
          obtain ⟨ω1, a1, a2, a3⟩ := p_awaitParts (ω := st2 ω 0 6 (nI i)) hN hG hc (q := q) (by omega) hst
          rw [if_pos (by rw [es]), a3, b2_some, nm_d, nI_1] at step
          obtain ⟨ω', v, pl, b1, b2, b3, b4, b5⟩ := ih (i + 1) f ω1 (q ++ (slS G (cs.getD i 0)).reverse) (by omega) (by omega) a2 (by rw [List.length_append, List.length_reverse]; omega) (fun x hx => by
            rcases List.mem_append.mp hx with hx | hx
            · exact h6 x (by simp [hx])
            · rw [List.mem_reverse] at hx
              rcases hc with ⟨r, hr, er⟩ | ⟨v, hv, er⟩
              · rw [er, sl_r (by have := hG.1.2.2.1; omega)] at hx
                obtain ⟨z, hz, rfl⟩ := List.mem_map.mp hx
                obtain ⟨q1, q2⟩ := dv_mem.mp hz
                exact okSym_sX6 hG.1 ((hG.1.2.2.2.2 r hr).2.2.2.1 z q1) q2
              · rw [er, sl_n (vS_neg (by have := hG.1.2.1; omega))] at hx
                simp at hx)
          refine ⟨ω', v, pl, Or.inr (Or.inr ⟨hc, es, ?_⟩), fun c h0 h1 => by rw [b2 c h0 h1, a1 c h1, st2_a _ _ _ h0], fun k hk => by rw [b3 k hk, a1 0 (by decide), st2_k _ _ _ hk], b4, ?_⟩
          · rw [List.reverse_append, List.reverse_reverse] at b1
            exact b1
          · rw [step]
            rw [List.length_append, List.length_reverse] at b5
            exact b5
        · rw [if_neg (fun q => es (nI_inj (by omega) (by omega) q))] at step
          exact ⟨_, 3, i, Or.inr (Or.inl ⟨hc, es, rfl, rfl⟩), fun c h0 _ => st2_a _ _ _ h0, fun k hk => st2_k _ _ _ hk, st2_s _ _ _ _, by rw [step]; rfl⟩
      · rw [e, b1_some, if_pos rfl] at step
        exact ⟨_, 2, i, Or.inl ⟨hc, rfl, rfl⟩, fun c h0 _ => st2_a _ _ _ h0, fun k hk => st2_k _ _ _ hk, st2_s _ _ _ _, by rw [step]; rfl⟩
theorem p_readCodes {N n : Nat} (hN : 201 ≤ N) (hn : n ≤ 200) {γ π ω : Nat → Nat → Int32} {G : Gm} (hG : GrOK γ G) {cs : List Int32} (hp : SyL n π cs) {s : Nat} (hs : s < 6) : ∃ ω' v pl, rdr G cs 0 [s] v pl ∧ ω' 0 6 = nI pl ∧ m_Gw_readCodes N n ω γ π (nI s) = some (nI v, ω') := by
  have hl := hp.2.1
  have t0 : Int32.toNatClampNeg 0 = 0 := by decide
  have c0 : ∀ k : Option (Int32 × (Nat → Nat → Int32)), ck 0 601 k = k := fun k => ck_n (j := 0) (by decide) (by decide)
  obtain ⟨ω', v, pl, b1, _, _, b4, b5⟩ := p_readCodes_12 (N := N) (by omega) hn hG hp cs.length 0 N (st2 ω 1 0 (nI s)) [s] (by omega) (by omega) (fun k hk => by
    simp only [List.length_cons, List.length_nil] at hk
    have : k = 0 := by omega
    subst this
    rw [st2_s]
    rfl) (by simp) (fun x hx => by simp at hx; omega)
  refine ⟨ω', v, pl, b1, b4, ?_⟩
  unfold m_Gw_readCodes f_Gw_readCodes_0
  rw [c0, nm_d, t0]
  exact b5
