/-! Rows of symbols (class Symbols): length at 0 1, items at 1 -/
theorem p_append {σ : Nat → Nat → Int32} {n len : Nat} (hn : n ≤ 1000) (h : σ 0 1 = nI len) (hl : len ≤ n) (x : Int32) : m_Sy_append n σ x = if len < n then some (1, st2 (st2 σ 1 len x) 0 1 (nI (len + 1))) else some (0, σ) := by
  unfold m_Sy_append f_Sy_append_0
  rw [h, if_neg (nI_pos (by omega)), if_lt (by omega) (by omega)]
  by_cases c : len < n
  · rw [if_pos c, if_pos c, ck_n c (by omega), nm_d, nm_d, nI_clamp (by omega), st2_aj _ _ _ _ (by decide), h, nI_1]
  · rw [if_neg c, if_neg c]
theorem p_empty (σ : Nat → Nat → Int32) (n : Nat) : m_Sy_empty n σ = some (σ 0 1, st2 σ 0 1 0) := rfl
theorem p_at {σ : Nat → Nat → Int32} {n len : Nat} (hn : n ≤ 1000) (h : σ 0 1 = nI len) (hl : len ≤ n) {j : Nat} (hj : j < len) : m_Sy_at n σ (nI j) = some (σ 1 j) := by
  unfold m_Sy_at f_Sy_at_0
  rw [if_neg (nI_pos (by omega)), h, if_neg (nI_ge hj (by omega)), if_neg (nI_ge (by omega) (by omega)), ck_n (by omega) (by omega), nI_clamp (by omega)]
theorem p_at_no {σ : Nat → Nat → Int32} {n len : Nat} (h : σ 0 1 = nI len) {x : Int32} (hx : x < 0 ∨ nI len ≤ x) : m_Sy_at n σ x = some (-1000) := by
  unfold m_Sy_at f_Sy_at_0
  by_cases c : x < 0
  · rw [if_pos c]
  · rw [if_neg c, h, if_pos (hx.resolve_left c)]
/-! symbols -/
theorem p_hasSymbol {γ μ : Nat → Nat → Int32} {nv : Nat} (h1 : γ 0 1 = nI nv) (h2 : μ 0 2 = nI nv) (hv : nv ≤ 20) (x : Int32) : m_Gr_hasSymbol γ x = m_Md_isSymbol μ x := by
  unfold m_Gr_hasSymbol f_Gr_hasSymbol_0 m_Md_isSymbol f_Md_isSymbol_0
  rw [h1, h2]
  by_cases c : x < 0
  · rw [if_pos c]
    have h30 : ¬ (30 : Int32) ≤ x := by
      intro h
      have a1 := Int32.lt_iff_toInt_lt.mp c
      have a2 := Int32.le_iff_toInt_le.mp h
      have a3 : (30 : Int32).toInt = 30 := by decide
      have a4 : (0 : Int32).toInt = 0 := by decide
      omega
    rw [if_neg h30]
  · rw [if_neg c]
    have h0 : ¬ x < -nI nv := by
      intro h
      have a1 := Int32.lt_iff_toInt_lt.mp h
      have a2 : ¬ x.toInt < (0 : Int32).toInt := fun q => c (Int32.lt_iff_toInt_lt.mpr q)
      have a4 : (0 : Int32).toInt = 0 := by decide
      rw [sb_negT (show nv < 2 ^ 31 by omega)] at a1
      omega
    rw [if_neg h0]
/-- variable v as a symbol, or a code -/
def vS (v : Nat) : Int32 := -1 - nI v
theorem vS_t {v : Nat} (h : v < 2 ^ 30) : (vS v).toInt = -1 - (v : Int) := by
  unfold vS
  rw [Int32.toInt_sub, nI_toInt (by omega), show (-1 : Int32).toInt = -1 by decide]
  exact Int.bmod_eq_of_le_mul_two (by omega) (by omega)
theorem vS_neg {v : Nat} (h : v < 2 ^ 30) : vS v < 0 := by
  rw [Int32.lt_iff_toInt_lt, vS_t h, show (0 : Int32).toInt = 0 by decide]
  omega
theorem vS_inj {v w : Nat} (hv : v < 2 ^ 30) (hw : w < 2 ^ 30) (h : vS v = vS w) : v = w := by
  have h1 := congrArg Int32.toInt h
  rw [vS_t hv, vS_t hw] at h1
  omega
theorem vS_back {v : Nat} (h : v < 2 ^ 30) : -1 - vS v = nI v := by
  apply Int32.toInt_inj.mp
  rw [Int32.toInt_sub, vS_t h, nI_toInt (by omega), show (-1 : Int32).toInt = -1 by decide]
  rw [show (-1 - (-1 - (v : Int))) = (v : Int) by omega]
  exact Int.bmod_eq_of_le_mul_two (by omega) (by omega)
theorem neg_vS {x : Int32} (h : x < 0) : ∃ v : Nat, v < 2 ^ 31 ∧ x.toInt = -1 - (v : Int) := by
  have a := Int32.lt_iff_toInt_lt.mp h
  rw [show (0 : Int32).toInt = 0 by decide] at a
  have b := Int32.le_toInt x
  refine ⟨(-1 - x.toInt).toNat, ?_, ?_⟩ <;> omega
/-- a symbol that is one: a constant below 30, or variable v below nv -/
def okSym (nv : Nat) (x : Int32) : Prop := (∃ c : Nat, c < 30 ∧ x = nI c) ∨ ∃ v : Nat, v < nv ∧ x = vS v
theorem p_isSymbol {μ : Nat → Nat → Int32} {nv : Nat} (h2 : μ 0 2 = nI nv) (hv : nv ≤ 20) (x : Int32) : (okSym nv x ∧ m_Md_isSymbol μ x = some 1) ∨ (¬ okSym nv x ∧ m_Md_isSymbol μ x = some 0) := by
  have a0 : (0 : Int32).toInt = 0 := by decide
  have a3 : (30 : Int32).toInt = 30 := by decide
  unfold m_Md_isSymbol f_Md_isSymbol_0
  rw [h2]
  by_cases c : x < 0
  · rw [if_pos c]
    obtain ⟨v, hv2, ev⟩ := neg_vS c
    by_cases d : x < -nI nv
    · right
      refine ⟨?_, by rw [if_pos d]⟩
      have d1 := Int32.lt_iff_toInt_lt.mp d
      rw [sb_negT (show nv < 2 ^ 31 by omega)] at d1
      rintro (⟨k, hk, rfl⟩ | ⟨w, hw, rfl⟩)
      · exact nI_pos (by omega) c
      · rw [vS_t (by omega)] at d1
        omega
    · left
      refine ⟨Or.inr ⟨v, ?_, ?_⟩, by rw [if_neg d]⟩
      · have d1 : ¬ x.toInt < (-nI nv).toInt := fun q => d (Int32.lt_iff_toInt_lt.mpr q)
        rw [sb_negT (show nv < 2 ^ 31 by omega)] at d1
        omega
      · have d1 : ¬ x.toInt < (-nI nv).toInt := fun q => d (Int32.lt_iff_toInt_lt.mpr q)
        rw [sb_negT (show nv < 2 ^ 31 by omega)] at d1
        apply Int32.toInt_inj.mp
        rw [vS_t (by omega)]
        exact ev
  · rw [if_neg c]
    by_cases d : (30 : Int32) ≤ x
    · right
      refine ⟨?_, by rw [if_pos d]⟩
      rintro (⟨k, hk, rfl⟩ | ⟨w, hw, rfl⟩)
      · exact nI_ge hk (by omega) d
      · exact c (vS_neg (by omega))
    · left
      refine ⟨Or.inl ?_, by rw [if_neg d]⟩
      obtain ⟨j, hj, rfl⟩ := nI_of c
      refine ⟨j, ?_, rfl⟩
      have d1 : ¬ nI 30 ≤ nI j := d
      rw [i_le (by omega) (by omega)] at d1
      omega
theorem p_hasSymbol1 {γ : Nat → Nat → Int32} {nv : Nat} (h1 : γ 0 1 = nI nv) (hv : nv ≤ 20) (x : Int32) : (okSym nv x ∧ m_Gr_hasSymbol γ x = some 1) ∨ (¬ okSym nv x ∧ m_Gr_hasSymbol γ x = some 0) := by
  rw [p_hasSymbol (μ := fun _ _ => nI nv) h1 rfl hv x]
  exact p_isSymbol (μ := fun _ _ => nI nv) rfl hv x
