/-! close, in the model: the begun rule (30) is copied to its number -/
def mcl (μ : Nat → Nat → Int32) (nr : Nat) : Nat → Nat → Nat → Int32
  | 0 => μ
  | k + 1 => st2 (mcl μ nr k) 4 (8 * nr + k) (mcl μ nr k 4 (240 + k))
theorem mcl_o (μ : Nat → Nat → Int32) (nr : Nat) {c : Nat} (hc : c ≠ 4) : ∀ k, mcl μ nr k c = μ c
  | 0 => rfl
  | k + 1 => by
    show st2 (mcl μ nr k) 4 _ _ c = _
    rw [st2_a _ _ _ hc]
    exact mcl_o μ nr hc k
theorem mcl_4 (μ : Nat → Nat → Int32) {nr : Nat} (hr : nr < 30) : ∀ (k : Nat), k ≤ 8 → ∀ j, mcl μ nr k 4 j = if 8 * nr ≤ j ∧ j < 8 * nr + k then μ 4 (240 + (j - 8 * nr)) else μ 4 j
  | 0, _, j => by rw [if_neg (by omega)]; rfl
  | k + 1, hk, j => by
    show st2 (mcl μ nr k) 4 _ _ 4 j = _
    by_cases c : j = 8 * nr + k
    · subst c
      rw [st2_s, mcl_4 μ hr k (by omega) (240 + k), if_neg (by omega), if_pos (by omega)]
      congr 1
      omega
    · rw [st2_k _ _ _ c, mcl_4 μ hr k (by omega) j]
      by_cases d : 8 * nr ≤ j ∧ j < 8 * nr + k
      · rw [if_pos d, if_pos (by omega)]
      · rw [if_neg d, if_neg (by omega)]
theorem p_close_l {N : Nat} {μ : Nat → Nat → Int32} {nr : Nat} (hr : nr < 30) (h : μ 0 4 = nI nr) (kx : (Nat → Nat → Int32) → Option (Int32 × (Nat → Nat → Int32))) : ∀ (d i n : Nat), i + d = 8 → d < n → l_Md_close_63 N kx n (mcl μ nr i) (nI i) = kx (mcl μ nr 8) := by
  intro d
  induction d with
  | zero =>
    intro i n hi hn
    obtain ⟨m, rfl⟩ : ∃ m, n = m + 1 := ⟨n - 1, by omega⟩
    have e : i = 8 := by omega
    subst e
    unfold l_Md_close_63 f_Md_close_63
    rw [show (8 : Int32) = nI 8 from rfl, if_pos (nI_le (Nat.le_refl _) (by omega))]
  | succ d ih =>
    intro i n hi hn
    obtain ⟨m, rfl⟩ : ∃ m, n = m + 1 := ⟨n - 1, by omega⟩
    have e4 : mcl μ nr i 0 4 = nI nr := by rw [mcl_o μ nr (by decide)]; exact h
    have ih' := ih (i + 1) m (by omega) (by omega)
    unfold l_Md_close_63 f_Md_close_63
    simp only [nm_d, e4]
    rw [nI_8mul, show (8 : Int32) = nI 8 from rfl, if_neg (nI_ge (by omega) (by omega)), show (240 : Int32) = nI 240 from rfl, nI_add, nI_add, ck_n (by omega) (by omega), ck_n (by omega) (by omega), nI_clamp (by omega), nI_clamp (by omega), nI_1]
    exact ih'
