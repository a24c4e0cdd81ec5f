/-! rules and their symbols -/
theorem p_hasRule {γ : Nat → Nat → Int32} {n : Nat} (h : γ 0 2 = nI n) (hn : n ≤ 30) (x : Int32) : (∃ j : Nat, j < n ∧ x = nI j ∧ m_Gr_hasRule γ x = some 1) ∨ ((x < 0 ∨ (¬ x < 0 ∧ nI n ≤ x)) ∧ m_Gr_hasRule γ x = some 0) := by
  unfold m_Gr_hasRule f_Gr_hasRule_0
  rcases i_cases x (show n < 2 ^ 31 by omega) with c | ⟨c1, c2⟩ | ⟨j, hj, rfl⟩
  · right
    exact ⟨Or.inl c, by rw [if_pos c]⟩
  · right
    refine ⟨Or.inr ⟨Int32.not_lt.mpr c1, c2⟩, ?_⟩
    rw [if_neg (Int32.not_lt.mpr c1), h, if_pos c2]
  · left
    refine ⟨j, hj, rfl, ?_⟩
    rw [if_neg (nI_pos (by omega)), h, if_neg (nI_ge hj (by omega))]
theorem nI_mul8 (r : Nat) : nI r * 8 = nI (r * 8) := by
  rw [show (8 : Int32) = nI 8 from rfl, pk_mul]
theorem p_symbolAt {γ : Nat → Nat → Int32} {n r l k : Nat} (h : γ 0 2 = nI n) (hn : n ≤ 30) (hr : r < n) (hl : γ 3 r = nI l) (h8 : l ≤ 8) (hk : k < l) : m_Gr_symbolAt γ (nI r) (nI k) = some (γ 4 (8 * r + k)) := by
  unfold m_Gr_symbolAt f_Gr_symbolAt_0
  rcases p_hasRule h hn (nI r) with ⟨j, hj, e, a⟩ | ⟨c, a⟩
  · simp only [a, bd1]
    rw [if_neg (by decide), if_neg (nI_pos (by omega)), ck_n (by omega) (by omega), nI_clamp (by omega), hl, if_neg (nI_ge hk (by omega)), nI_mul8, nI_add, ck_n (by omega) (by omega), nI_clamp (by omega), Nat.mul_comm r 8]
  · rcases c with c | c
    · exact absurd c (nI_pos (by omega))
    · exact absurd c.2 (nI_ge hr (by omega))
