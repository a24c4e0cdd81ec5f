theorem p_begunLength_y {γ : Nat → Nat → Int32} {nr : Nat} (k : γ 0 2 = nI nr) (hr : nr < 30) (b : ¬ γ 0 3 = 0) : m_Gr_begunLength γ = some (γ 3 nr) := by
  unfold m_Gr_begunLength f_Gr_begunLength_0
  rw [if_neg b, k, show (30 : Int32) = nI 30 from rfl, if_neg (nI_ge (by omega) (by omega)), ck_n hr (by omega), nI_clamp (by omega)]
theorem p_begunLength_n {γ : Nat → Nat → Int32} (b : γ 0 3 = 0) : m_Gr_begunLength γ = some 0 := by
  unfold m_Gr_begunLength f_Gr_begunLength_0
  rw [if_pos b]
theorem p_Rt_close_y {γ : Nat → Nat → Int32} {nr l : Nat} (x : Nat → Nat → Int32) (k : γ 0 2 = nI nr) (hr : nr < 30) (b : ¬ γ 0 3 = 0) (hl : γ 3 nr = nI l) (h1 : 1 ≤ l) (h8 : l ≤ 8) : m_Rt_close x γ = some (nI nr, st2 (st2 γ 0 3 0) 0 2 (nI (nr + 1))) := by
  have e1 : st2 γ 0 3 0 0 2 = nI nr := by simp [st2, upd, k]
  unfold m_Rt_close f_Rt_close_0 m_Gr_closeRule f_Gr_closeRule_0
  simp only [p_begunLength_y k hr b, bd1, nm_d, hl, e1]
  rw [if_neg b, if_neg (nI_ne0 (by omega) (by omega)), st2_s, nI_1, nI_sub1 (by omega)]
  rfl
theorem p_Rt_close_n {γ : Nat → Nat → Int32} {nr : Nat} (x : Nat → Nat → Int32) (k : γ 0 2 = nI nr) (h : γ 0 3 = 0 ∨ (nr < 30 ∧ γ 3 nr = 0)) : m_Rt_close x γ = some (-1, γ) := by
  unfold m_Rt_close f_Rt_close_0 m_Gr_closeRule f_Gr_closeRule_0
  by_cases b : γ 0 3 = 0
  · rw [if_pos b]; rfl
  · rcases h with h | ⟨h1, h2⟩
    · exact absurd h b
    · simp only [p_begunLength_y k h1 b, bd1, h2]
      rw [if_neg b]
      rfl
