/-! Counting: how many of the symbols f b .. f (b + l - 1) are variables -/
def cntV (f : Nat → Int32) (b : Nat) : Nat → Nat
  | 0 => 0
  | l + 1 => cntV f b l + if 0 ≤ f (b + l) then 0 else 1
theorem cntV_le (f : Nat → Int32) (b : Nat) : ∀ l, cntV f b l ≤ l
  | 0 => Nat.le_refl 0
  | l + 1 => by
    have := cntV_le f b l
    unfold cntV
    by_cases c : 0 ≤ f (b + l)
    · rw [if_pos c]; omega
    · rw [if_neg c]; omega
theorem nI_8mul (r : Nat) : 8 * nI r = nI (8 * r) := by
  rw [show (8 : Int32) = nI 8 from rfl, pk_mul]
/-- the model's loop over a rule's symbols -/
theorem p_variablesIn_l {N : Nat} {μ : Nat → Nat → Int32} {r l : Nat} (hr : r < 31) (hl : l ≤ 8) (h : μ 3 r = nI l) (kx : Int32 → Option Int32) : ∀ (d i n : Nat), i + d = l → d < n → l_Md_variablesIn_4 N μ (nI r) kx n (nI (cntV (μ 4) (8 * r) i)) (nI i) = kx (nI (cntV (μ 4) (8 * r) l)) := by
  intro d
  induction d with
  | zero =>
    intro i n hi hn
    obtain ⟨m, rfl⟩ : ∃ m, n = m + 1 := ⟨n - 1, by omega⟩
    have e : i = l := by omega
    subst e
    unfold l_Md_variablesIn_4 f_Md_variablesIn_4
    rw [ck_n hr (by omega), nI_clamp (by omega), h, if_pos (nI_le (Nat.le_refl _) (by omega))]
  | succ d ih =>
    intro i n hi hn
    obtain ⟨m, rfl⟩ : ∃ m, n = m + 1 := ⟨n - 1, by omega⟩
    have hc := cntV_le (μ 4) (8 * r) i
    unfold l_Md_variablesIn_4 f_Md_variablesIn_4
    rw [ck_n hr (by omega), nI_clamp (by omega), h, if_neg (nI_ge (by omega) (by omega)), nI_8mul, nI_add, ck_n (by omega) (by omega), nI_clamp (by omega)]
    have ih' := ih (i + 1) m (by omega) (by omega)
    have hs : cntV (μ 4) (8 * r) (i + 1) = cntV (μ 4) (8 * r) i + if 0 ≤ μ 4 (8 * r + i) then 0 else 1 := rfl
    by_cases c : 0 ≤ μ 4 (8 * r + i)
    · rw [if_pos c, nm_d, nI_1]
      rw [hs, if_pos c] at ih'
      exact ih'
    · rw [if_neg c, nm_d, nm_d, nI_1, nI_1]
      rw [hs, if_neg c] at ih'
      exact ih'
theorem p_variablesIn {N : Nat} {μ : Nat → Nat → Int32} {r l : Nat} (hN : 9 ≤ N) (hr : r < 31) (hl : l ≤ 8) (h : μ 3 r = nI l) : m_Md_variablesIn N μ (nI r) = some (nI (cntV (μ 4) (8 * r) l)) := by
  unfold m_Md_variablesIn f_Md_variablesIn_0
  have h1 := p_variablesIn_l (N := N) hr hl h (fun v2 => f_Md_variablesIn_42 N μ v2) l 0 N (by omega) (by omega)
  rw [show cntV (μ 4) (8 * r) 0 = 0 from rfl, nI_0] at h1
  rw [h1]
  rfl
