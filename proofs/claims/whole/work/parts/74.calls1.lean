/-! The plain calls, computed -/
theorem p_Rt_sort {γ : Nat → Nat → Int32} {n : Nat} (x : Nat → Nat → Int32) (h : γ 0 0 = nI n) (hn : n ≤ 6) : m_Rt_sort x γ = if n < 6 then some (nI n, st2 γ 0 0 (nI (n + 1))) else some (-1, γ) := by
  unfold m_Rt_sort f_Rt_sort_0
  rw [p_addSort h hn]
  by_cases c : n < 6
  · rw [if_pos c]; rfl
  · rw [if_neg c]; rfl
theorem p_Md_sort {μ : Nat → Nat → Int32} {n : Nat} (h : μ 0 1 = nI n) (hn : n ≤ 6) : m_Md_sort μ = if n < 6 then some (nI n, st2 (st2 (st2 μ 0 0 0) 0 1 (nI (n + 1))) 0 14 0) else some (-1, st2 μ 0 0 0) := by
  unfold m_Md_sort f_Md_sort_0
  simp only [nm_d]
  rw [st2_k _ _ _ (by decide), h, show (6 : Int32) = nI 6 from rfl, if_eq (by omega) (by omega)]
  by_cases c : n < 6
  · rw [if_neg (by omega), if_pos c, st2_k _ _ _ (by decide), st2_s, nI_1, nI_sub1 (by omega)]
    rfl
  · rw [if_pos (by omega), if_neg c]
theorem p_Md_isSort {μ : Nat → Nat → Int32} {n : Nat} (h : μ 0 1 = nI n) (hn : n ≤ 6) (x : Int32) : (∃ j : Nat, j < n ∧ x = nI j ∧ m_Md_isSort μ x = some 1) ∨ ((x < 0 ∨ nI n ≤ x) ∧ m_Md_isSort μ x = some 0) := by
  unfold m_Md_isSort f_Md_isSort_0
  rcases i_cases x (show n < 2 ^ 31 by omega) with c | ⟨c1, c2⟩ | ⟨j, hj, rfl⟩
  · right
    exact ⟨Or.inl c, by rw [if_pos c]⟩
  · right
    refine ⟨Or.inr c2, ?_⟩
    rw [if_neg (Int32.not_lt.mpr c1), h, if_pos c2]
  · left
    refine ⟨j, hj, rfl, ?_⟩
    rw [if_neg (nI_pos (by omega)), h, if_neg (nI_ge hj (by omega))]
/-- a sort number: both sides see it alike -/
theorem p_sortArg {γ μ : Nat → Nat → Int32} {n : Nat} (h : γ 0 0 = nI n) (h2 : μ 0 1 = nI n) (hn : n ≤ 6) (x : Int32) : (∃ j : Nat, j < n ∧ x = nI j ∧ m_Gr_hasSort γ x = some 1 ∧ m_Md_isSort μ x = some 1) ∨ (m_Gr_hasSort γ x = some 0 ∧ m_Md_isSort μ x = some 0) := by
  rcases p_hasSort h hn x with ⟨j, hj, e, a⟩ | ⟨c, a⟩
  · rcases p_Md_isSort h2 hn x with ⟨k, hk, e2, b⟩ | ⟨c, b⟩
    · exact Or.inl ⟨j, hj, e, a, b⟩
    · subst e
      rcases c with c | c
      · exact absurd c (nI_pos (by omega))
      · exact absurd c (nI_ge hj (by omega))
  · rcases p_Md_isSort h2 hn x with ⟨k, hk, e2, b⟩ | ⟨_, b⟩
    · subst e2
      rcases c with c | c
      · exact absurd c (nI_pos (by omega))
      · exact absurd c (nI_ge hk (by omega))
    · exact Or.inr ⟨a, b⟩
theorem p_Rt_variable {γ μ : Nat → Nat → Int32} {ns nv : Nat} (x : Nat → Nat → Int32) (h : γ 0 0 = nI ns) (h2 : μ 0 1 = nI ns) (hn : ns ≤ 6) (k : γ 0 1 = nI nv) (k2 : μ 0 2 = nI nv) (hv : nv ≤ 20) (a : Int32) :
    (∃ j : Nat, j < ns ∧ nv < 20 ∧ m_Rt_variable x γ a = some (nI nv, st2 (st2 γ 1 nv (nI j)) 0 1 (nI (nv + 1))) ∧ m_Md_variable μ a = some (nI nv, st2 (st2 (st2 μ 0 0 0) 1 nv (nI j)) 0 2 (nI (nv + 1)))) ∨
    (m_Rt_variable x γ a = some (-1, γ) ∧ m_Md_variable μ a = some (-1, st2 μ 0 0 0)) := by
  have h2' : st2 μ 0 0 0 0 1 = nI ns := by rw [st2_k _ _ _ (by decide)]; exact h2
  have k2' : st2 μ 0 0 0 0 2 = nI nv := by rw [st2_k _ _ _ (by decide)]; exact k2
  rcases p_sortArg h h2' hn a with ⟨j, hj, rfl, e1, e2⟩ | ⟨e1, e2⟩
  · by_cases c : nv < 20
    · left
      refine ⟨j, hj, c, ?_, ?_⟩
      · unfold m_Rt_variable f_Rt_variable_0 m_Gr_addVariable f_Gr_addVariable_0
        simp only [e1, bd1, nm_d, k]
        rw [if_neg (by decide), show (20 : Int32) = nI 20 from rfl, if_lt (by omega) (by omega), if_pos c, ck_n c (by omega), nI_clamp (by omega), st2_s, st2_aj _ _ _ _ (by decide), k, nI_1, nI_sub1 (by omega)]
        rfl
      · unfold m_Md_variable f_Md_variable_0
        simp only [e2, bd1, nm_d, k2']
        rw [if_neg (by decide), show (20 : Int32) = nI 20 from rfl, if_eq (by omega) (by omega), if_neg (by omega), ck_n c (by omega), nI_clamp (by omega), st2_s, st2_aj _ _ _ _ (by decide), k2', nI_1, nI_sub1 (by omega)]
        rfl
    · right
      refine ⟨?_, ?_⟩
      · unfold m_Rt_variable f_Rt_variable_0 m_Gr_addVariable f_Gr_addVariable_0
        simp only [e1, bd1, nm_d, k]
        rw [if_neg (by decide), show (20 : Int32) = nI 20 from rfl, if_lt (by omega) (by omega), if_neg c]
        rfl
      · unfold m_Md_variable f_Md_variable_0
        simp only [e2, bd1, nm_d, k2']
        rw [if_neg (by decide), show (20 : Int32) = nI 20 from rfl, if_eq (by omega) (by omega), if_pos (by omega)]
  · right
    refine ⟨?_, ?_⟩
    · unfold m_Rt_variable f_Rt_variable_0 m_Gr_addVariable f_Gr_addVariable_0
      simp only [e1, bd1, nm_d]
      rfl
    · unfold m_Md_variable f_Md_variable_0
      simp only [e2, bd1, nm_d]
      rfl
theorem p_Rt_drop (x ρ : Nat → Nat → Int32) (n : Nat) : m_Rt_drop n x ρ = some (ρ 0 1, st2 ρ 0 1 0) := rfl
theorem p_Md_drop (μ : Nat → Nat → Int32) : m_Md_drop μ = some (μ 0 10, st2 (st2 (st2 μ 0 0 0) 0 10 0) 0 14 0) := by
  unfold m_Md_drop f_Md_drop_0
  rw [nm_d, nm_d, nm_d, nm_d, st2_k _ _ _ (by decide)]
theorem p_Rt_clear (x ρ : Nat → Nat → Int32) (n : Nat) : m_Rt_clear n x ρ = some (ρ 0 1, st2 ρ 0 1 0) := rfl
theorem p_Md_clear (μ : Nat → Nat → Int32) : m_Md_clear μ = some (μ 0 12, st2 (st2 μ 0 0 0) 0 12 0) := by
  unfold m_Md_clear f_Md_clear_0
  rw [nm_d, nm_d, nm_d, st2_k _ _ _ (by decide)]
theorem p_Md_place (μ : Nat → Nat → Int32) : m_Md_place μ = some (μ 0 13, st2 μ 0 0 0) := by
  unfold m_Md_place f_Md_place_0
  rw [nm_d, st2_k _ _ _ (by decide)]
theorem p_Md_check (μ : Nat → Nat → Int32) : m_Md_check μ = some (1, st2 μ 0 0 0) := rfl
theorem p_Rt_type {τ : Nat → Nat → Int32} {len : Nat} (x : Nat → Nat → Int32) (h : τ 0 1 = nI len) (hl : len ≤ 200) (a : Int32) : m_Rt_type 200 x τ a = if len < 200 then some (nI (len + 1), st2 (st2 τ 1 len a) 0 1 (nI (len + 1))) else some (-1, τ) := by
  unfold m_Rt_type f_Rt_type_0
  rw [p_append (by omega) h hl]
  by_cases c : len < 200
  · rw [if_pos c, if_pos c]
    simp only [bd2]
    rw [if_neg (by decide), st2_s]
  · rw [if_neg c, if_neg c]
    rfl
theorem p_Md_type {μ : Nat → Nat → Int32} {len : Nat} (h : μ 0 12 = nI len) (hl : len ≤ 200) (a : Int32) : m_Md_type μ a = if len < 200 then some (nI (len + 1), st2 (st2 (st2 μ 0 0 0) 6 len a) 0 12 (nI (len + 1))) else some (-1, st2 μ 0 0 0) := by
  unfold m_Md_type f_Md_type_0
  simp only [nm_d]
  rw [st2_k _ _ _ (by decide), h, show (200 : Int32) = nI 200 from rfl, if_eq (by omega) (by omega)]
  by_cases c : len < 200
  · rw [if_neg (by omega), if_pos c, ck_n c (by omega), nI_clamp (by omega), st2_s, st2_aj _ _ _ _ (by decide), st2_k _ _ _ (by decide), h, nI_1]
  · rw [if_pos (by omega), if_neg c]
theorem p_Rt_token {γ μ ρ : Nat → Nat → Int32} {nv len : Nat} (x : Nat → Nat → Int32) (k : γ 0 1 = nI nv) (k2 : μ 0 2 = nI nv) (hv : nv ≤ 20) (h : ρ 0 1 = nI len) (h2 : μ 0 10 = nI len) (hl : len ≤ 12) (a : Int32) :
    (okSym nv a ∧ len < 12 ∧ m_Rt_token 12 x γ ρ a = some (nI (len + 1), st2 (st2 ρ 1 len a) 0 1 (nI (len + 1))) ∧ m_Md_token μ a = some (nI (len + 1), st2 (st2 (st2 (st2 μ 0 0 0) 5 len a) 0 10 (nI (len + 1))) 0 14 0)) ∨
    (m_Rt_token 12 x γ ρ a = some (-1, ρ) ∧ m_Md_token μ a = some (-1, st2 μ 0 0 0)) := by
  have k2' : st2 μ 0 0 0 0 2 = nI nv := by rw [st2_k _ _ _ (by decide)]; exact k2
  have h2' : st2 μ 0 0 0 0 10 = nI len := by rw [st2_k _ _ _ (by decide)]; exact h2
  have hs := p_hasSymbol k k2' hv a
  rcases p_isSymbol k2' hv a with ⟨c, e⟩ | ⟨c, e⟩
  · rw [e] at hs
    by_cases d : len < 12
    · left
      refine ⟨c, d, ?_, ?_⟩
      · unfold m_Rt_token f_Rt_token_0
        simp only [hs, bd1]
        rw [if_neg (by decide), p_append (by omega) h hl, if_pos d]
        simp only [bd2]
        rw [if_neg (by decide), st2_s]
      · unfold m_Md_token f_Md_token_0
        simp only [e, bd1, nm_d, h2']
        rw [if_neg (by decide), show (12 : Int32) = nI 12 from rfl, if_eq (by omega) (by omega), if_neg (by omega), ck_n d (by omega), nI_clamp (by omega), st2_k _ _ _ (by decide), st2_s, st2_aj _ _ _ _ (by decide), h2', nI_1]
    · right
      refine ⟨?_, ?_⟩
      · unfold m_Rt_token f_Rt_token_0
        simp only [hs, bd1]
        rw [if_neg (by decide), p_append (by omega) h hl, if_neg d]
        rfl
      · unfold m_Md_token f_Md_token_0
        simp only [e, bd1, nm_d, h2']
        rw [if_neg (by decide), show (12 : Int32) = nI 12 from rfl, if_eq (by omega) (by omega), if_pos (by omega)]
  · right
    rw [e] at hs
    refine ⟨?_, ?_⟩
    · unfold m_Rt_token f_Rt_token_0
      simp only [hs, bd1]
      rfl
    · unfold m_Md_token f_Md_token_0
      simp only [e, bd1, nm_d]
      rfl
