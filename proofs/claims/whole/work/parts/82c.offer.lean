def updC (C : Nat → List Int32) (t : Nat) (x : List Int32) : Nat → List Int32 := fun j => if j = t then x else C j
theorem updC_s (C : Nat → List Int32) (t : Nat) (x : List Int32) : updC C t x t = x := by simp [updC]
theorem updC_o (C : Nat → List Int32) {t j : Nat} (x : List Int32) (h : j ≠ t) : updC C t x j = C j := by simp [updC, h]
theorem map_updC {C : Nat → List Int32} {t : Nat} {x : List Int32} {ps : List Nat} (h : ∀ p, p ∈ ps → p ≠ t) : ps.map (updC C t x) = ps.map C := by
  apply List.map_congr_left
  intro p hp
  exact updC_o C x (h p hp)
theorem p_draftSize_l {N : Nat} {τ : Nat → Nat → Int32} {C : Nat → List Int32} {ps : List Nat} (h4 : ps.length ≤ 4) (h3 : τ 3 936 = nI ps.length) (hp : ∀ k, k < ps.length → τ 4 (3744 + k) = nI (ps.getD k 0) ∧ ps.getD k 0 ≤ 936 ∧ τ 1 (ps.getD k 0) = nI (C (ps.getD k 0)).length) (kx : Int32 → Option Int32) : ∀ (d i n : Nat), i + d = ps.length → d < n → l_Tt_draftSize_4 N τ kx n (nI (1 + ((ps.take i).map C).flatten.length)) (nI i) = kx (nI (1 + (ps.map C).flatten.length)) := by
  have t9 : Int32.toNatClampNeg 936 = 936 := by decide
  have c9 : ∀ k : Option Int32, ck 936 937 k = k := fun k => ck_n (j := 936) (by decide) (by decide)
  intro d
  induction d with
  | zero =>
    intro i n hi hn
    obtain ⟨m, rfl⟩ : ∃ m, n = m + 1 := ⟨n - 1, by omega⟩
    have e : i = ps.length := by omega
    subst e
    unfold l_Tt_draftSize_4 f_Tt_draftSize_4
    rw [c9, t9, h3, if_pos (nI_le (Nat.le_refl _) (by omega)), List.take_length]
  | succ d ih =>
    intro i n hi hn
    obtain ⟨m, rfl⟩ : ∃ m, n = m + 1 := ⟨n - 1, by omega⟩
    obtain ⟨q1, q2, q3⟩ := hp i (by omega)
    have ih' := ih (i + 1) m (by omega) (by omega)
    have e1 : ps.take (i + 1) = ps.take i ++ [ps.getD i 0] := by
      rw [List.getD_eq_getElem?_getD, List.getElem?_eq_getElem (by omega)]
      exact List.take_succ_eq_append_getElem (by omega)
    have e2 : ((ps.take (i + 1)).map C).flatten.length = ((ps.take i).map C).flatten.length + (C (ps.getD i 0)).length := by
      rw [e1]
      simp
    unfold l_Tt_draftSize_4 f_Tt_draftSize_4
    rw [c9, t9, h3, if_neg (nI_ge (by omega) (by omega))]
    simp (disch := omega) only [nm_x, b1_some, b2_some, b3_some, b4_some, ck_n, nI_clamp, nI_add, nI_1, n_1add, pk_mul, n_sub, n_sub1, n_addm1, l_2, l_3, l_4, l_5, l_6, l_7, l_8, l_9, l_10, l_11, l_12, l_13, l_20, l_30, l_31, l_36, l_120, l_150, l_200, l_240, l_248, l_400, l_468, l_601, l_936, l_937, l_1000, l_1872, l_2600, l_3744, l_3748, l_374400, l_1000001, l_1000002, c_lt_t, c_lt_f, c_le_t, c_le_f, c_eq_t, c_eq_f, c_n0, c_0le, c_0lt, c_0lt_f, c_le0, c_le0_t, c_m1, c_m1l, c_ne0, c_eq0, c_eq1, c_ne1, c_lt1, c_1lt, c_1lt_f, m1_neg, if_true, if_false, q1, p_sizeAt q2, q3]
    rw [e2, ← Nat.add_assoc] at ih'
    exact ih'
theorem p_draftSize {N : Nat} (hN : 5 ≤ N) {τ : Nat → Nat → Int32} {C : Nat → List Int32} {ps : List Nat} (h4 : ps.length ≤ 4) (h3 : τ 3 936 = nI ps.length) (hp : ∀ k, k < ps.length → τ 4 (3744 + k) = nI (ps.getD k 0) ∧ ps.getD k 0 ≤ 936 ∧ τ 1 (ps.getD k 0) = nI (C (ps.getD k 0)).length) : m_Tt_draftSize N τ = some (nI (1 + (ps.map C).flatten.length)) := by
  unfold m_Tt_draftSize f_Tt_draftSize_0
  have := p_draftSize_l (N := N) h4 h3 hp (fun v1 => f_Tt_draftSize_39 N τ v1) ps.length 0 N (by omega) (by omega)
  exact this
/-- what copying a tree does -/
def Cpd (τ τ' : Nat → Nat → Int32) (src dst n : Nat) : Prop :=
  τ' 1 = upd (τ 1) dst (τ 1 src) ∧ τ' 2 = upd (τ 2) dst (τ 2 src) ∧ τ' 3 = upd (τ 3) dst (τ 3 src) ∧ (∀ k, k < n → τ' 4 (4 * dst + k) = τ 4 (4 * src + k)) ∧ ∀ j, (∀ k, k < n → j ≠ 4 * dst + k) → τ' 4 j = τ 4 j
theorem p_copyTree_l {N src dst n : Nat} (hs : src ≤ 936) (hd : dst ≤ 936) (hne : src ≠ dst) (h4 : n ≤ 4) (τ0 : Nat → Nat → Int32) (kx : (Nat → Nat → Int32) → Option (Nat → Nat → Int32)) : ∀ (d i f : Nat) (τ : Nat → Nat → Int32), i + d = n → d < f → τ 3 src = nI n → τ 1 = τ0 1 → τ 2 = τ0 2 → τ 3 = τ0 3 → (∀ k, k < i → τ 4 (4 * dst + k) = τ0 4 (4 * src + k)) → (∀ j, (∀ k, k < i → j ≠ 4 * dst + k) → τ 4 j = τ0 4 j) →
    ∃ τ', τ' 1 = τ0 1 ∧ τ' 2 = τ0 2 ∧ τ' 3 = τ0 3 ∧ (∀ k, k < n → τ' 4 (4 * dst + k) = τ0 4 (4 * src + k)) ∧ (∀ j, (∀ k, k < n → j ≠ 4 * dst + k) → τ' 4 j = τ0 4 j) ∧ l_Tt_copyTree_38 N (nI src) (nI dst) kx f τ (nI i) = kx τ' := by
  intro d
  induction d with
  | zero =>
    intro i f τ hi hf h3 a1 a2 a3 a4 a5
    obtain ⟨m, rfl⟩ : ∃ m, f = m + 1 := ⟨f - 1, by omega⟩
    have e : i = n := by omega
    subst e
    refine ⟨τ, a1, a2, a3, a4, a5, ?_⟩
    unfold l_Tt_copyTree_38 f_Tt_copyTree_38
    simp (disch := omega) only [nm_x, b1_some, b2_some, b3_some, b4_some, ck_n, nI_clamp, nI_add, nI_1, n_1add, pk_mul, n_sub, n_sub1, n_addm1, l_2, l_3, l_4, l_5, l_6, l_7, l_8, l_9, l_10, l_11, l_12, l_13, l_20, l_30, l_31, l_36, l_120, l_150, l_200, l_240, l_248, l_400, l_468, l_601, l_936, l_937, l_1000, l_1872, l_2600, l_3744, l_3748, l_374400, l_1000001, l_1000002, c_lt_t, c_lt_f, c_le_t, c_le_f, c_eq_t, c_eq_f, c_n0, c_0le, c_0lt, c_0lt_f, c_le0, c_le0_t, c_m1, c_m1l, c_ne0, c_eq0, c_eq1, c_ne1, c_lt1, c_1lt, c_1lt_f, m1_neg, if_true, if_false, h3]
  | succ d ih =>
    intro i f τ hi hf h3 a1 a2 a3 a4 a5
    obtain ⟨m, rfl⟩ : ∃ m, f = m + 1 := ⟨f - 1, by omega⟩
    have es : τ 4 (4 * src + i) = τ0 4 (4 * src + i) := a5 _ (fun k hk => by omega)
    obtain ⟨τ', b1, b2, b3, b4, b5, b6⟩ := ih (i + 1) m (st2 τ 4 (4 * dst + i) (τ 4 (4 * src + i))) (by omega) (by omega) (by rw [st2_aj _ _ _ _ (by decide)]; exact h3) (by rw [st2_a _ _ _ (by decide)]; exact a1) (by rw [st2_a _ _ _ (by decide)]; exact a2) (by rw [st2_a _ _ _ (by decide)]; exact a3)
      (fun k hk => by
        by_cases c : k = i
        · subst c
          rw [st2_s, es]
        · rw [st2_k _ _ _ (by omega)]
          exact a4 k (by omega))
      (fun j hj => by
        rw [st2_k _ _ _ (hj i (by omega))]
        exact a5 j (fun k hk => hj k (by omega)))
    refine ⟨τ', b1, b2, b3, b4, b5, ?_⟩
    unfold l_Tt_copyTree_38 f_Tt_copyTree_38
    have e4 : src * 4 + i = 4 * src + i := by omega
    have e5 : dst * 4 + i = 4 * dst + i := by omega
    simp (disch := omega) only [nm_x, b1_some, b2_some, b3_some, b4_some, ck_n, nI_clamp, nI_add, nI_1, n_1add, pk_mul, n_sub, n_sub1, n_addm1, l_2, l_3, l_4, l_5, l_6, l_7, l_8, l_9, l_10, l_11, l_12, l_13, l_20, l_30, l_31, l_36, l_120, l_150, l_200, l_240, l_248, l_400, l_468, l_601, l_936, l_937, l_1000, l_1872, l_2600, l_3744, l_3748, l_374400, l_1000001, l_1000002, c_lt_t, c_lt_f, c_le_t, c_le_f, c_eq_t, c_eq_f, c_n0, c_0le, c_0lt, c_0lt_f, c_le0, c_le0_t, c_m1, c_m1l, c_ne0, c_eq0, c_eq1, c_ne1, c_lt1, c_1lt, c_1lt_f, m1_neg, if_true, if_false, h3, e4, e5]
    exact b6
theorem p_copyTree {N src dst n : Nat} (hN : 5 ≤ N) (hs : src ≤ 936) (hd : dst ≤ 936) (hne : src ≠ dst) (h4 : n ≤ 4) {τ : Nat → Nat → Int32} (h3 : τ 3 src = nI n) : ∃ τ', Cpd τ τ' src dst n ∧ m_Tt_copyTree N τ (nI src) (nI dst) = some τ' := by
  have e1 : st2 τ 1 dst (τ 1 src) 2 src = τ 2 src := st2_aj _ _ _ _ (by decide)
  have e2 : st2 (st2 τ 1 dst (τ 1 src)) 2 dst (τ 2 src) 3 src = τ 3 src := by rw [st2_aj _ _ _ _ (by decide), st2_aj _ _ _ _ (by decide)]
  obtain ⟨τ', b1, b2, b3, b4, b5, b6⟩ := p_copyTree_l (N := N) hs hd hne h4 (st2 (st2 (st2 τ 1 dst (τ 1 src)) 2 dst (τ 2 src)) 3 dst (τ 3 src)) (fun s_self => f_Tt_copyTree_74 N s_self) n 0 N (st2 (st2 (st2 τ 1 dst (τ 1 src)) 2 dst (τ 2 src)) 3 dst (τ 3 src)) (by omega) (by omega) (by rw [st2_k _ _ _ hne, e2]; exact h3) rfl rfl rfl (fun k hk => by omega) (fun j hj => rfl)
  refine ⟨τ', ⟨?_, ?_, ?_, ?_, ?_⟩, ?_⟩
  · rw [b1, st2_a _ _ _ (by decide), st2_a _ _ _ (by decide)]
    simp [st2]
  · rw [b2, st2_a _ _ _ (by decide)]
    simp [st2]
  · rw [b3]
    simp [st2]
  · intro k hk
    rw [b4 k hk]
    simp [st2]
  · intro j hj
    rw [b5 j hj]
    simp [st2]
  · unfold m_Tt_copyTree f_Tt_copyTree_0
    rw [← nI_0] 
    simp (disch := omega) only [nm_x, b1_some, b2_some, b3_some, b4_some, ck_n, nI_clamp, nI_add, nI_1, n_1add, pk_mul, n_sub, n_sub1, n_addm1, l_2, l_3, l_4, l_5, l_6, l_7, l_8, l_9, l_10, l_11, l_12, l_13, l_20, l_30, l_31, l_36, l_120, l_150, l_200, l_240, l_248, l_400, l_468, l_601, l_936, l_937, l_1000, l_1872, l_2600, l_3744, l_3748, l_374400, l_1000001, l_1000002, c_lt_t, c_lt_f, c_le_t, c_le_f, c_eq_t, c_eq_f, c_n0, c_0le, c_0lt, c_0lt_f, c_le0, c_le0_t, c_m1, c_m1l, c_ne0, c_eq0, c_eq1, c_ne1, c_lt1, c_1lt, c_1lt_f, m1_neg, if_true, if_false, e1, e2]
    exact b6
theorem upd_s (f : Nat → Int32) (k : Nat) (x : Int32) : upd f k x k = x := by simp [upd]
theorem upd_o (f : Nat → Int32) {k j : Nat} (x : Int32) (h : j ≠ k) : upd f k x j = f j := by simp [upd, h]
theorem Cpd.other {τ τ' : Nat → Nat → Int32} {src dst n : Nat} (h : Cpd τ τ' src dst n) (h4 : n ≤ 4) {C : Nat → List Int32} {ar : Int32 → Nat} {Q : Nat → Prop} {t : Nat} (ht : t ≠ dst) (hq : ¬ Q dst) (x : List Int32) (k : Tk τ C ar Q t) : Tk τ' (updC C dst x) ar Q t := by
  obtain ⟨h1, h2, h3, h5, h6⟩ := h
  obtain ⟨ps, a1, a2, a3, a4, a5, a6, a7⟩ := k
  have e : ps.map (updC C dst x) = ps.map C := map_updC (fun p hp => by
    obtain ⟨k, hk, rfl⟩ := mem_getD (d := 0) hp
    intro e
    exact hq (e ▸ (a4 k hk).2))
  refine ⟨ps, ?_, a2, ?_, ?_, ?_, ?_, ?_⟩
  · rw [h2, upd_o _ _ ht]; exact a1
  · rw [h3, upd_o _ _ ht]; exact a3
  · intro k hk
    rw [h6 _ (fun j hj => by omega)]
    exact a4 k hk
  · rw [updC_o _ _ ht, h2, upd_o _ _ ht, e]; exact a5
  · rw [updC_o _ _ ht, h1, upd_o _ _ ht]; exact a6
  · rw [updC_o _ _ ht]; exact a7
theorem Cpd.self {τ τ' : Nat → Nat → Int32} {src dst n : Nat} (h : Cpd τ τ' src dst n) (h3n : τ 3 src = nI n) (hn : n ≤ 4) {C : Nat → List Int32} {ar : Int32 → Nat} {Q : Nat → Prop} (hq : ¬ Q dst) (k : Tk τ C ar Q src) : Tk τ' (updC C dst (C src)) ar Q dst := by
  obtain ⟨h1, h2, h3, h5, h6⟩ := h
  obtain ⟨ps, a1, a2, a3, a4, a5, a6, a7⟩ := k
  have en : ps.length = n := by
    rw [a3] at h3n
    exact nI_inj (by omega) (by omega) h3n
  have e : ps.map (updC C dst (C src)) = ps.map C := map_updC (fun p hp => by
    obtain ⟨k, hk, rfl⟩ := mem_getD (d := 0) hp
    intro e
    exact hq (e ▸ (a4 k hk).2))
  refine ⟨ps, ?_, a2, ?_, ?_, ?_, ?_, ?_⟩
  · rw [h2, upd_s]; exact a1
  · rw [h3, upd_s]; exact a3
  · intro k hk
    rw [h5 k (by omega)]
    exact a4 k hk
  · rw [updC_s, h2, upd_s, e]; exact a5
  · rw [updC_s, h1, upd_s]; exact a6
  · rw [updC_s]; exact a7
