/-! begin -/
theorem t30 : Int32.toNatClampNeg 30 = 30 := by decide
theorem ck30 {β : Type} (k : Option β) : ck 30 31 k = k := ck_n (j := 30) (by decide) (by decide)
theorem p_Rt_begin_y {γ : Nat → Nat → Int32} {nr : Nat} (x : Nat → Nat → Int32) {a : Int32} (e : m_Gr_hasSort γ a = some 1) (k : γ 0 2 = nI nr) (hr : nr < 30) (b : γ 0 3 = 0) :
    m_Rt_begin x γ a = some (1, st2 (st2 (st2 (st2 (st2 γ 0 3 1) 0 4 0) 2 nr a) 3 nr 0) 6 nr 0) := by
  have e1 : st2 (st2 γ 0 3 1) 0 4 0 0 2 = nI nr := by simp [st2, upd, k]
  have e2 : st2 (st2 (st2 γ 0 3 1) 0 4 0) 2 nr a 0 2 = nI nr := by simp [st2, upd, k]
  have e3 : st2 (st2 (st2 (st2 γ 0 3 1) 0 4 0) 2 nr a) 3 nr 0 0 2 = nI nr := by simp [st2, upd, k]
  unfold m_Rt_begin f_Rt_begin_0 m_Gr_beginRule f_Gr_beginRule_0
  simp only [e, bd1, nm_d, k]
  rw [if_pos b, if_neg (by decide), show (30 : Int32) = nI 30 from rfl, if_lt (by omega) (by omega), if_pos hr, e1, ck_n hr (by omega), nI_clamp (by omega), e2, ck_n hr (by omega), nI_clamp (by omega), e3, ck_n hr (by omega), nI_clamp (by omega)]
  rfl
theorem p_Rt_begin_n {γ : Nat → Nat → Int32} {nr : Nat} (x : Nat → Nat → Int32) {a : Int32} (k : γ 0 2 = nI nr) (hr : nr ≤ 30) (h : m_Gr_hasSort γ a = some 0 ∨ (m_Gr_hasSort γ a = some 1 ∧ (nr = 30 ∨ ¬ γ 0 3 = 0))) :
    m_Rt_begin x γ a = some (0, γ) := by
  unfold m_Rt_begin f_Rt_begin_0 m_Gr_beginRule f_Gr_beginRule_0
  by_cases b : γ 0 3 = 0
  · rw [if_pos b]
    rcases h with h | ⟨h, h2⟩
    · simp only [h, bd1]; rfl
    · simp only [h, bd1, k]
      rw [if_neg (by decide), show (30 : Int32) = nI 30 from rfl, if_lt (by omega) (by omega), if_neg (by rcases h2 with h2 | h2; omega; exact absurd b h2)]
      rfl
  · rw [if_neg b]
    rfl
theorem p_Md_begin_y {μ : Nat → Nat → Int32} {nr : Nat} {a : Int32} (e : m_Md_isSort (st2 μ 0 0 0) a = some 1) (k : μ 0 4 = nI nr) (hr : nr < 30) (b : μ 0 5 = 0) :
    m_Md_begin μ a = some (1, st2 (st2 (st2 (st2 μ 0 0 0) 0 5 1) 2 30 a) 3 30 0) := by
  have e1 : st2 μ 0 0 0 0 4 = nI nr := by simp [st2, upd, k]
  have e2 : st2 μ 0 0 0 0 5 = 0 := by simp [st2, upd, b]
  unfold m_Md_begin f_Md_begin_0
  simp only [e, bd1, nm_d, e1, ck30, t30]
  rw [if_neg (by decide), show (30 : Int32) = nI 30 from rfl, if_eq (by omega) (by omega), if_neg (by omega), if_pos e2]
theorem p_Md_begin_n {μ : Nat → Nat → Int32} {nr : Nat} {a : Int32} (k : μ 0 4 = nI nr) (hr : nr ≤ 30) (h : m_Md_isSort (st2 μ 0 0 0) a = some 0 ∨ (m_Md_isSort (st2 μ 0 0 0) a = some 1 ∧ (nr = 30 ∨ ¬ μ 0 5 = 0))) :
    m_Md_begin μ a = some (0, st2 μ 0 0 0) := by
  have e1 : st2 μ 0 0 0 0 4 = nI nr := by simp [st2, upd, k]
  have e2 : st2 μ 0 0 0 0 5 = μ 0 5 := by simp [st2, upd]
  unfold m_Md_begin f_Md_begin_0
  rcases h with h | ⟨h, h2⟩
  · simp only [h, bd1, nm_d]; rfl
  · simp only [h, bd1, nm_d, e1, e2]
    rw [if_neg (by decide), show (30 : Int32) = nI 30 from rfl, if_eq (by omega) (by omega)]
    by_cases c : nr = 30
    · rw [if_pos c]
    · rw [if_neg c, if_neg (h2.resolve_left c)]
