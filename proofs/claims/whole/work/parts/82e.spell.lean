/-- a row of numbers (class Symbols) with its list -/
def SyL (n : Nat) (σ : Nat → Nat → Int32) (l : List Int32) : Prop := σ 0 1 = nI l.length ∧ l.length ≤ n ∧ ∀ k, k < l.length → σ 1 k = l.getD k 0
theorem SyL.nil (n : Nat) (σ : Nat → Nat → Int32) : SyL n (st2 σ 0 1 0) [] := ⟨by rw [st2_s]; rfl, by simp, fun k hk => by simp at hk⟩
theorem SyL.snoc {n : Nat} {σ : Nat → Nat → Int32} {l : List Int32} (h : SyL n σ l) (hl : l.length < n) (x : Int32) : SyL n (st2 (st2 σ 1 l.length x) 0 1 (nI (l.length + 1))) (l ++ [x]) := by
  refine ⟨by rw [st2_s]; simp, by simp; omega, fun k hk => ?_⟩
  simp only [List.length_append, List.length_cons, List.length_nil] at hk
  rw [st2_aj _ _ _ _ (by decide)]
  by_cases c : k = l.length
  · subst c
    rw [st2_s, getD_snoc_eq]
  · rw [st2_k _ _ _ c, getD_snoc_lt (by omega)]
    exact h.2.2 k (by omega)
theorem SyL.append {n : Nat} (hn : n ≤ 1000) {σ : Nat → Nat → Int32} {l : List Int32} (h : SyL n σ l) (x : Int32) : (l.length < n ∧ ∃ σ', m_Sy_append n σ x = some (1, σ') ∧ SyL n σ' (l ++ [x])) ∨ (l.length = n ∧ m_Sy_append n σ x = some (0, σ)) := by
  have := p_append hn h.1 h.2.1 x
  by_cases c : l.length < n
  · rw [if_pos c] at this
    exact Or.inl ⟨c, _, this, h.snoc c x⟩
  · rw [if_neg c] at this
    have := h.2.1
    exact Or.inr ⟨by omega, by assumption⟩
theorem SyL.at {n : Nat} (hn : n ≤ 1000) {σ : Nat → Nat → Int32} {l : List Int32} (h : SyL n σ l) {k : Nat} (hk : k < l.length) : m_Sy_at n σ (nI k) = some (l.getD k 0) := by
  rw [p_at hn h.1 h.2.1 hk, h.2.2 k hk]
theorem SyL.uniq {n : Nat} (hn : n ≤ 1000) {σ : Nat → Nat → Int32} {l m : List Int32} (h : SyL n σ l) (k : SyL n σ m) : l = m := by
  have h1 := h.2.1
  have h2 := k.2.1
  have e : l.length = m.length := nI_inj (by omega) (by omega) (h.1.symm.trans k.1)
  apply List.ext_getElem e
  intro i hi hi2
  have := (h.2.2 i hi).symm.trans (k.2.2 i hi2)
  rw [List.getD_eq_getElem?_getD, List.getD_eq_getElem?_getD, List.getElem?_eq_getElem hi, List.getElem?_eq_getElem hi2] at this
  exact this
theorem p_spell_l {N n : Nat} (hN : 5 ≤ N) (hn : n ≤ 1000) {C : Nat → List Int32} {ar : Int32 → Nat} {V Q : Nat → Prop} (kx : (Nat → Nat → Int32) → (Nat → Nat → Int32) → Option ((Nat → Nat → Int32) × (Nat → Nat → Int32))) : ∀ (d st f : Nat) (τ π : Nat → Nat → Int32) (q : List Nat) (out : List Int32), st + d = 150 → d < f → TT τ C ar V Q → StK τ 5 q → (∀ p, p ∈ q → V p) → (rem C q).length ≤ d → SyL n π out → out.length + (rem C q).length ≤ n →
    ∃ τ' π', (∀ c, c ≠ 5 → τ' c = τ c) ∧ SyL n π' (out ++ rem C q) ∧ l_Tt_spellTree_26 N n kx f τ π (nI q.length) (nI st) = kx τ' π' := by
  intro d
  induction d with
  | zero =>
    intro st f τ π q out hst hf hT h5 hq hr hs hb
    obtain ⟨m, rfl⟩ : ∃ m, f = m + 1 := ⟨f - 1, by omega⟩
    have e1 : rem C q = [] := List.length_eq_zero_iff.mp (by omega)
    refine ⟨τ, π, fun _ _ => rfl, by rw [e1, List.append_nil]; exact hs, ?_⟩
    unfold l_Tt_spellTree_26 f_Tt_spellTree_26
    simp (disch := omega) only [nm_x, b1_some, b2_some, b3_some, b4_some, ck_n, nI_clamp, nI_add, nI_1, n_1add, pk_mul, n_sub, n_sub1, n_addm1, l_2, l_3, l_4, l_5, l_6, l_7, l_8, l_9, l_10, l_11, l_12, l_13, l_20, l_30, l_31, l_36, l_120, l_150, l_200, l_240, l_248, l_400, l_468, l_601, l_936, l_937, l_1000, l_1872, l_2600, l_3744, l_3748, l_374400, l_1000001, l_1000002, c_lt_t, c_lt_f, c_le_t, c_le_f, c_eq_t, c_eq_f, c_n0, c_0le, c_0lt, c_0lt_f, c_le0, c_le0_t, c_m1, c_m1l, c_ne0, c_eq0, c_eq1, c_ne1, c_lt1, c_1lt, c_1lt_f, m1_neg, if_true, if_false]
  | succ d ih =>
    intro st f τ π q out hst hf hT h5 hq hr hs hb
    obtain ⟨m, rfl⟩ : ∃ m, f = m + 1 := ⟨f - 1, by omega⟩
    rcases q_cases q with rfl | ⟨q, a, rfl⟩
    · refine ⟨τ, π, fun _ _ => rfl, by simpa [rem] using hs, ?_⟩
      unfold l_Tt_spellTree_26 f_Tt_spellTree_26
      rw [List.length_nil]
      simp (disch := omega) only [nm_x, b1_some, b2_some, b3_some, b4_some, ck_n, nI_clamp, nI_add, nI_1, n_1add, pk_mul, n_sub, n_sub1, n_addm1, l_2, l_3, l_4, l_5, l_6, l_7, l_8, l_9, l_10, l_11, l_12, l_13, l_20, l_30, l_31, l_36, l_120, l_150, l_200, l_240, l_248, l_400, l_468, l_601, l_936, l_937, l_1000, l_1872, l_2600, l_3744, l_3748, l_374400, l_1000001, l_1000002, c_lt_t, c_lt_f, c_le_t, c_le_f, c_eq_t, c_eq_f, c_n0, c_0le, c_0lt, c_0lt_f, c_le0, c_le0_t, c_m1, c_m1l, c_ne0, c_eq0, c_eq1, c_ne1, c_lt1, c_1lt, c_1lt_f, m1_neg, if_true, if_false]
    · obtain ⟨a9, ta⟩ := hT.1 a (hq a (by simp))
      obtain ⟨ps, a1, a2, a3, a4, a5, a6, a7⟩ := ta
      have hq' : ∀ p, p ∈ q → V p := fun p hp => hq p (by simp [hp])
      have er : rem C (q ++ [a]) = τ 2 a :: ((ps.map C).flatten ++ rem C q) := by rw [rem_snoc, a5]; rfl
      rw [er] at hr hb ⊢
      simp only [List.length_cons, List.length_append] at hr hb
      have e5 := h5.top
      have hlq : q.length + ps.length ≤ 150 := by
        have := rem_len (C := C) (q := q ++ ps.reverse) (fun p hp => by
          rcases List.mem_append.mp hp with hp | hp
          · exact (hT.1 p (hq' p hp)).2.ne
          · obtain ⟨k, hk, e⟩ := mem_getD (d := 0) (List.mem_reverse.mp hp)
            exact (hT.1 p (e ▸ hT.2 _ (a4 k hk).2)).2.ne)
        rw [rem_push] at this
        simp only [List.length_append, List.length_reverse] at this
        omega
      have hq1 := rem_len (C := C) (q := q) (fun p hp => (hT.1 p (hq' p hp)).2.ne)
      obtain ⟨_, π1, s1, s2⟩ := (hs.append hn (τ 2 a)).resolve_right (fun h => by omega)
      obtain ⟨τ1, g1, g2, g3⟩ := p_stackParts_5 (τ := τ) hN a9 a2 (q := q) hlq a3 (fun k hk => (a4 k hk).1) h5.pop
      obtain ⟨τ', π', f1, f2, f3⟩ := ih (st + 1) m τ1 π1 (q ++ ps.reverse) (out ++ [τ 2 a]) (by omega) (by omega) (hT.frame (fun c h5 _ => g1 c h5)) g2
        (fun p hp => by
          rcases List.mem_append.mp hp with hp | hp
          · exact hq' p hp
          · obtain ⟨k, hk, e⟩ := mem_getD (d := 0) (List.mem_reverse.mp hp)
            exact e ▸ hT.2 _ (a4 k hk).2)
        (by rw [rem_push]; simp only [List.length_append]; omega) s2 (by rw [rem_push]; simp only [List.length_append, List.length_cons, List.length_nil]; omega)
      refine ⟨τ', π', fun c h5 => by rw [f1 c h5, g1 c h5], ?_, ?_⟩
      · rw [rem_push, List.append_assoc] at f2
        exact f2
      · unfold l_Tt_spellTree_26 f_Tt_spellTree_26
        have hql : (q ++ [a]).length = q.length + 1 := by simp
        rw [hql]
        have e0 : q.length + 1 - 1 = q.length := by omega
        simp (disch := omega) only [nm_x, b1_some, b2_some, b3_some, b4_some, ck_n, nI_clamp, nI_add, nI_1, n_1add, pk_mul, n_sub, n_sub1, n_addm1, l_2, l_3, l_4, l_5, l_6, l_7, l_8, l_9, l_10, l_11, l_12, l_13, l_20, l_30, l_31, l_36, l_120, l_150, l_200, l_240, l_248, l_400, l_468, l_601, l_936, l_937, l_1000, l_1872, l_2600, l_3744, l_3748, l_374400, l_1000001, l_1000002, c_lt_t, c_lt_f, c_le_t, c_le_f, c_eq_t, c_eq_f, c_n0, c_0le, c_0lt, c_0lt_f, c_le0, c_le0_t, c_m1, c_m1l, c_ne0, c_eq0, c_eq1, c_ne1, c_lt1, c_1lt, c_1lt_f, m1_neg, if_true, if_false, e0, e5, s1, g3]
        rw [show (q ++ ps.reverse).length = q.length + ps.length by simp] at f3
        exact f3
theorem p_spell {N n : Nat} (hN : 151 ≤ N) (hn : n ≤ 1000) {τ π : Nat → Nat → Int32} {C : Nat → List Int32} {ar : Int32 → Nat} {V Q : Nat → Prop} (hT : TT τ C ar V Q) {t : Nat} (ht : V t) (hl : (C t).length ≤ 150) (hb : (C t).length ≤ n) :
    ∃ τ' π', (∀ c, c ≠ 5 → τ' c = τ c) ∧ SyL n π' (C t) ∧ m_Tt_spellTree N n τ π (nI t) = some (τ', π') := by
  obtain ⟨z, z0, z1, ez⟩ := hT.size ht
  have c0 : ∀ k : Option ((Nat → Nat → Int32) × (Nat → Nat → Int32)), ck 0 150 k = k := fun k => ck_n (j := 0) (by decide) (by decide)
  have t0 : Int32.toNatClampNeg 0 = 0 := by decide
  have fr : ∀ c, c ≠ 5 → st2 τ 5 0 (nI t) c = τ c := fun c h => st2_a _ _ _ h
  have h5 : StK (st2 τ 5 0 (nI t)) 5 [t] := by
    intro k hk
    simp only [List.length_cons, List.length_nil] at hk
    have : k = 0 := by omega
    subst this
    rw [st2_s]
    rfl
  have er : rem C [t] = C t := by simp [rem]
  obtain ⟨τ', π', f1, f2, f3⟩ := p_spell_l (N := N) (by omega) hn (fun s_self s_p1 => f_Tt_spellTree_79 N n s_self s_p1) 150 0 N (st2 τ 5 0 (nI t)) (st2 π 0 1 0) [t] [] rfl (by omega) (hT.frame (fun c h _ => fr c h)) h5 (fun p hp => by simp at hp; rw [hp]; exact ht) (by rw [er]; exact hl) (SyL.nil n π) (by rw [er]; simpa using hb)
  rw [er, List.nil_append] at f2
  refine ⟨τ', π', fun c h => by rw [f1 c h, fr c h], f2, ?_⟩
  unfold m_Tt_spellTree f_Tt_spellTree_0
  rw [p_empty, b2_some, p_sizeAt (hT.1 t ht).1, b1_some, ez, if_neg (nI_ne0 z0 z1), c0, nm_d, t0]
  exact f3
theorem p_spell_no {N n : Nat} {τ π : Nat → Nat → Int32} {t : Nat} (ht : t ≤ 936) (h0 : τ 1 t = 0) : m_Tt_spellTree N n τ π (nI t) = some (τ, st2 π 0 1 0) := by
  unfold m_Tt_spellTree f_Tt_spellTree_0
  rw [p_empty, b2_some, p_sizeAt ht, b1_some, h0, if_pos rfl]
theorem p_forget {τ : Nat → Nat → Int32} {c : Nat} (hc : c < 468) : m_Tt_forget τ (nI c) = some (st2 (st2 τ 1 (2 * c) 0) 1 (2 * c + 1) 0) := by
  unfold m_Tt_forget f_Tt_forget_0
  rw [p_isCell hc, b1_some, if_neg (by decide), p_treeOf0, b1_some, p_treeOf1]
  simp (disch := omega) only [nm_x, b1_some, b2_some, b3_some, b4_some, ck_n, nI_clamp, nI_add, nI_1, n_1add, pk_mul, n_sub, n_sub1, n_addm1, l_2, l_3, l_4, l_5, l_6, l_7, l_8, l_9, l_10, l_11, l_12, l_13, l_20, l_30, l_31, l_36, l_120, l_150, l_200, l_240, l_248, l_400, l_468, l_601, l_936, l_937, l_1000, l_1872, l_2600, l_3744, l_3748, l_374400, l_1000001, l_1000002, c_lt_t, c_lt_f, c_le_t, c_le_f, c_eq_t, c_eq_f, c_n0, c_0le, c_0lt, c_0lt_f, c_le0, c_le0_t, c_m1, c_m1l, c_ne0, c_eq0, c_eq1, c_ne1, c_lt1, c_1lt, c_1lt_f, m1_neg, if_true, if_false]
theorem p_startDraft {τ : Nat → Nat → Int32} {h : Int32} {n : Nat} (hn : n ≤ 4) : m_Tt_startDraft τ h (nI n) = some (st2 (st2 τ 2 936 h) 3 936 (nI n)) := by
  have t9 : Int32.toNatClampNeg 936 = 936 := by decide
  have c9 : ∀ k : Option (Nat → Nat → Int32), ck 936 937 k = k := fun k => ck_n (j := 936) (by decide) (by decide)
  unfold m_Tt_startDraft f_Tt_startDraft_0
  rw [c9, nm_d, nm_d, c9, nm_d, t9, l_4, if_neg (by rw [c_lt_f (by omega) (by omega)]; exact id)]
theorem p_setDraftPart {τ : Nat → Nat → Int32} {k t : Nat} (hk : k < 4) (ht : t < 936) : m_Tt_setDraftPart τ (nI k) (nI t) = some (st2 τ 4 (3744 + k) (nI t)) := by
  unfold m_Tt_setDraftPart f_Tt_setDraftPart_0
  simp (disch := omega) only [nm_x, b1_some, b2_some, b3_some, b4_some, ck_n, nI_clamp, nI_add, nI_1, n_1add, pk_mul, n_sub, n_sub1, n_addm1, l_2, l_3, l_4, l_5, l_6, l_7, l_8, l_9, l_10, l_11, l_12, l_13, l_20, l_30, l_31, l_36, l_120, l_150, l_200, l_240, l_248, l_400, l_468, l_601, l_936, l_937, l_1000, l_1872, l_2600, l_3744, l_3748, l_374400, l_1000001, l_1000002, c_lt_t, c_lt_f, c_le_t, c_le_f, c_eq_t, c_eq_f, c_n0, c_0le, c_0lt, c_0lt_f, c_le0, c_le0_t, c_m1, c_m1l, c_ne0, c_eq0, c_eq1, c_ne1, c_lt1, c_1lt, c_1lt_f, m1_neg, if_true, if_false]
