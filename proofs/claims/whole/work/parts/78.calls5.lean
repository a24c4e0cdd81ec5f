/-- the model's state when the begun rule is closed -/
def mClosed (μ : Nat → Nat → Int32) (nr : Nat) : Nat → Nat → Int32 :=
  st2 (st2 (mcl (st2 (st2 (st2 (st2 μ 0 0 0) 0 5 0) 2 nr (μ 2 30)) 3 nr (μ 3 30)) nr 8) 0 4 (nI (nr + 1))) 0 14 0
theorem p_Md_close_y {N : Nat} {μ : Nat → Nat → Int32} {nr l : Nat} (hN : 9 ≤ N) (k : μ 0 4 = nI nr) (hr : nr < 30) (b : ¬ μ 0 5 = 0) (hl : μ 3 30 = nI l) (h1 : 1 ≤ l) (h8 : l ≤ 8) : m_Md_close N μ = some (nI nr, mClosed μ nr) := by
  have e0 : st2 μ 0 0 0 0 5 = μ 0 5 := by simp [st2, upd]
  have e3 : st2 μ 0 0 0 3 30 = nI l := by simp [st2, hl]
  have e1 : st2 (st2 μ 0 0 0) 0 5 0 0 4 = nI nr := by simp [st2, upd, k]
  have e2 : st2 (st2 μ 0 0 0) 0 5 0 2 30 = μ 2 30 := by simp [st2]
  have e4 : st2 (st2 (st2 μ 0 0 0) 0 5 0) 2 nr (μ 2 30) 0 4 = nI nr := by simp [st2, upd, k]
  have e5 : st2 (st2 (st2 μ 0 0 0) 0 5 0) 2 nr (μ 2 30) 3 30 = μ 3 30 := by simp [st2]
  have e6 : st2 (st2 (st2 (st2 μ 0 0 0) 0 5 0) 2 nr (μ 2 30)) 3 nr (μ 3 30) 0 4 = nI nr := by simp [st2, upd, k]
  have hloop := p_close_l (N := N) hr e6 (fun s_self => f_Md_close_99 N s_self) 8 0 N (by omega) (by omega)
  rw [nI_0] at hloop
  unfold m_Md_close f_Md_close_0
  simp only [nm_d, e0, e3, ck30, t30, e1, e2]
  rw [if_neg b, if_neg (nI_ne0 (by omega) (by omega)), ck_n (by omega) (by omega), nI_clamp (by omega), e4, ck_n (by omega) (by omega), nI_clamp (by omega), e5]
  refine hloop.trans ?_
  have e7 : mcl (st2 (st2 (st2 (st2 μ 0 0 0) 0 5 0) 2 nr (μ 2 30)) 3 nr (μ 3 30)) nr 8 0 4 = nI nr := by rw [mcl_o _ _ (by decide)]; exact e6
  unfold f_Md_close_99
  simp only [nm_d, e7]
  rw [st2_k _ _ _ (by decide), st2_s, nI_1, nI_sub1 (by omega)]
  rfl
theorem p_Md_close_n {N : Nat} {μ : Nat → Nat → Int32} (h : μ 0 5 = 0 ∨ μ 3 30 = 0) : m_Md_close N μ = some (-1, st2 μ 0 0 0) := by
  have e0 : st2 μ 0 0 0 0 5 = μ 0 5 := by simp [st2, upd]
  have e3 : st2 μ 0 0 0 3 30 = μ 3 30 := by simp [st2]
  unfold m_Md_close f_Md_close_0
  simp only [nm_d, e0, e3, ck30, t30]
  by_cases b : μ 0 5 = 0
  · rw [if_pos b]
  · rw [if_neg b, if_pos (h.resolve_left b)]
