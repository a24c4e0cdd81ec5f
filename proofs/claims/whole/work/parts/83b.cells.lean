/-! ways in the class -/
def nL (n : Nat) : Int64 := Int64.ofNat n
theorem nL_t {n : Nat} (h : n < 2 ^ 62) : (nL n).toInt = (n : Int) := by
  unfold nL
  exact Int64.toInt_ofNat_of_lt (by omega)
theorem nL_of {a : Nat} (h : a < 2 ^ 31) : (nI a).toInt64 = nL a := by
  apply Int64.toInt_inj.mp
  rw [Int32.toInt_toInt64, nI_toInt h, nL_t (by omega)]
theorem nL_mul (a b : Nat) : nL a * nL b = nL (a * b) := (Int64.ofNat_mul a b).symm
theorem nL_add (a b : Nat) : nL a + nL b = nL (a + b) := (Int64.ofNat_add a b).symm
theorem nL_lt {a b : Nat} (ha : a < 2 ^ 62) (hb : b < 2 ^ 62) : (nL a < nL b) = (a < b) := by
  apply propext
  rw [Int64.lt_iff_toInt_lt, nL_t ha, nL_t hb]
  omega
theorem nL_back {a : Nat} (h : a < 2 ^ 31) : (nL a).toInt32 = nI a := by
  apply Int32.toInt_inj.mp
  rw [Int64.toInt_toInt32, nL_t (by omega), nI_toInt h]
  exact Int.bmod_eq_of_le_mul_two (by omega) (by omega)
theorem p_plus {a b : Nat} (ha : a ≤ 1000002) (hb : b ≤ 1000002) : m_Wy_plus (nI a) (nI b) = some (nI (wplus a b)) := by
  unfold m_Wy_plus f_Wy_plus_0 wplus
  by_cases c1 : a = 1000002
  · rw [if_pos (Or.inl c1)]
    simp (disch := omega) only [nm_x, b1_some, b2_some, b3_some, b4_some, ck_n, nI_clamp, nI_add, nI_1, n_1add, pk_mul, n_sub, n_sub1, n_addm1, l_2, l_3, l_4, l_5, l_6, l_7, l_8, l_9, l_10, l_11, l_12, l_13, l_20, l_30, l_31, l_36, l_120, l_150, l_200, l_240, l_248, l_400, l_468, l_601, l_936, l_937, l_1000, l_1872, l_2600, l_3744, l_3748, l_374400, l_1000001, l_1000002, c_lt_t, c_lt_f, c_le_t, c_le_f, c_eq_t, c_eq_f, c_n0, c_0le, c_0lt, c_0lt_f, c_le0, c_le0_t, c_m1, c_m1l, c_ne0, c_eq0, c_eq1, c_ne1, c_lt1, c_1lt, c_1lt_f, m1_neg, if_true, if_false]
  · by_cases c2 : b = 1000002
    · rw [if_pos (Or.inr c2)]
      simp (disch := omega) only [nm_x, b1_some, b2_some, b3_some, b4_some, ck_n, nI_clamp, nI_add, nI_1, n_1add, pk_mul, n_sub, n_sub1, n_addm1, l_2, l_3, l_4, l_5, l_6, l_7, l_8, l_9, l_10, l_11, l_12, l_13, l_20, l_30, l_31, l_36, l_120, l_150, l_200, l_240, l_248, l_400, l_468, l_601, l_936, l_937, l_1000, l_1872, l_2600, l_3744, l_3748, l_374400, l_1000001, l_1000002, c_lt_t, c_lt_f, c_le_t, c_le_f, c_eq_t, c_eq_f, c_n0, c_0le, c_0lt, c_0lt_f, c_le0, c_le0_t, c_m1, c_m1l, c_ne0, c_eq0, c_eq1, c_ne1, c_lt1, c_1lt, c_1lt_f, m1_neg, if_true, if_false]
    · rw [if_neg (by omega : ¬ (a = 1000002 ∨ b = 1000002))]
      by_cases c3 : 1000001 < a + b
      · rw [Nat.min_eq_right (by omega)]
        simp (disch := omega) only [nm_x, b1_some, b2_some, b3_some, b4_some, ck_n, nI_clamp, nI_add, nI_1, n_1add, pk_mul, n_sub, n_sub1, n_addm1, l_2, l_3, l_4, l_5, l_6, l_7, l_8, l_9, l_10, l_11, l_12, l_13, l_20, l_30, l_31, l_36, l_120, l_150, l_200, l_240, l_248, l_400, l_468, l_601, l_936, l_937, l_1000, l_1872, l_2600, l_3744, l_3748, l_374400, l_1000001, l_1000002, c_lt_t, c_lt_f, c_le_t, c_le_f, c_eq_t, c_eq_f, c_n0, c_0le, c_0lt, c_0lt_f, c_le0, c_le0_t, c_m1, c_m1l, c_ne0, c_eq0, c_eq1, c_ne1, c_lt1, c_1lt, c_1lt_f, m1_neg, if_true, if_false]
      · rw [Nat.min_eq_left (by omega)]
        simp (disch := omega) only [nm_x, b1_some, b2_some, b3_some, b4_some, ck_n, nI_clamp, nI_add, nI_1, n_1add, pk_mul, n_sub, n_sub1, n_addm1, l_2, l_3, l_4, l_5, l_6, l_7, l_8, l_9, l_10, l_11, l_12, l_13, l_20, l_30, l_31, l_36, l_120, l_150, l_200, l_240, l_248, l_400, l_468, l_601, l_936, l_937, l_1000, l_1872, l_2600, l_3744, l_3748, l_374400, l_1000001, l_1000002, c_lt_t, c_lt_f, c_le_t, c_le_f, c_eq_t, c_eq_f, c_n0, c_0le, c_0lt, c_0lt_f, c_le0, c_le0_t, c_m1, c_m1l, c_ne0, c_eq0, c_eq1, c_ne1, c_lt1, c_1lt, c_1lt_f, m1_neg, if_true, if_false]
theorem p_times {a b : Nat} (ha : a ≤ 1000002) (hb : b ≤ 1000002) : m_Wy_times (nI a) (nI b) = some (nI (wtimes a b)) := by
  unfold m_Wy_times f_Wy_times_0 wtimes
  by_cases c1 : a = 0
  · rw [if_pos (Or.inl c1)]
    simp (disch := omega) only [nm_x, b1_some, b2_some, b3_some, b4_some, ck_n, nI_clamp, nI_add, nI_1, n_1add, pk_mul, n_sub, n_sub1, n_addm1, l_2, l_3, l_4, l_5, l_6, l_7, l_8, l_9, l_10, l_11, l_12, l_13, l_20, l_30, l_31, l_36, l_120, l_150, l_200, l_240, l_248, l_400, l_468, l_601, l_936, l_937, l_1000, l_1872, l_2600, l_3744, l_3748, l_374400, l_1000001, l_1000002, c_lt_t, c_lt_f, c_le_t, c_le_f, c_eq_t, c_eq_f, c_n0, c_0le, c_0lt, c_0lt_f, c_le0, c_le0_t, c_m1, c_m1l, c_ne0, c_eq0, c_eq1, c_ne1, c_lt1, c_1lt, c_1lt_f, m1_neg, if_true, if_false]
    rfl
  · by_cases c2 : b = 0
    · rw [if_pos (Or.inr c2)]
      simp (disch := omega) only [nm_x, b1_some, b2_some, b3_some, b4_some, ck_n, nI_clamp, nI_add, nI_1, n_1add, pk_mul, n_sub, n_sub1, n_addm1, l_2, l_3, l_4, l_5, l_6, l_7, l_8, l_9, l_10, l_11, l_12, l_13, l_20, l_30, l_31, l_36, l_120, l_150, l_200, l_240, l_248, l_400, l_468, l_601, l_936, l_937, l_1000, l_1872, l_2600, l_3744, l_3748, l_374400, l_1000001, l_1000002, c_lt_t, c_lt_f, c_le_t, c_le_f, c_eq_t, c_eq_f, c_n0, c_0le, c_0lt, c_0lt_f, c_le0, c_le0_t, c_m1, c_m1l, c_ne0, c_eq0, c_eq1, c_ne1, c_lt1, c_1lt, c_1lt_f, m1_neg, if_true, if_false]
      rfl
    · rw [if_neg (by omega : ¬ (a = 0 ∨ b = 0))]
      by_cases c3 : a = 1000002
      · rw [if_pos (Or.inl c3)]
        simp (disch := omega) only [nm_x, b1_some, b2_some, b3_some, b4_some, ck_n, nI_clamp, nI_add, nI_1, n_1add, pk_mul, n_sub, n_sub1, n_addm1, l_2, l_3, l_4, l_5, l_6, l_7, l_8, l_9, l_10, l_11, l_12, l_13, l_20, l_30, l_31, l_36, l_120, l_150, l_200, l_240, l_248, l_400, l_468, l_601, l_936, l_937, l_1000, l_1872, l_2600, l_3744, l_3748, l_374400, l_1000001, l_1000002, c_lt_t, c_lt_f, c_le_t, c_le_f, c_eq_t, c_eq_f, c_n0, c_0le, c_0lt, c_0lt_f, c_le0, c_le0_t, c_m1, c_m1l, c_ne0, c_eq0, c_eq1, c_ne1, c_lt1, c_1lt, c_1lt_f, m1_neg, if_true, if_false]
      · by_cases c4 : b = 1000002
        · rw [if_pos (Or.inr c4)]
          simp (disch := omega) only [nm_x, b1_some, b2_some, b3_some, b4_some, ck_n, nI_clamp, nI_add, nI_1, n_1add, pk_mul, n_sub, n_sub1, n_addm1, l_2, l_3, l_4, l_5, l_6, l_7, l_8, l_9, l_10, l_11, l_12, l_13, l_20, l_30, l_31, l_36, l_120, l_150, l_200, l_240, l_248, l_400, l_468, l_601, l_936, l_937, l_1000, l_1872, l_2600, l_3744, l_3748, l_374400, l_1000001, l_1000002, c_lt_t, c_lt_f, c_le_t, c_le_f, c_eq_t, c_eq_f, c_n0, c_0le, c_0lt, c_0lt_f, c_le0, c_le0_t, c_m1, c_m1l, c_ne0, c_eq0, c_eq1, c_ne1, c_lt1, c_1lt, c_1lt_f, m1_neg, if_true, if_false]
        · rw [if_neg (by omega : ¬ (a = 1000002 ∨ b = 1000002))]
          have hab : a * b ≤ 1000002 * 1000002 := Nat.mul_le_mul ha hb
          rw [if_neg (nI_ne0 (by omega) (by omega)), if_neg (nI_ne0 (by omega) (by omega)), l_1000002, if_neg (of_eq_false (c_eq_f c3 (by omega) (by omega))), if_neg (of_eq_false (c_eq_f c4 (by omega) (by omega))), nm_d, nL_of (by omega), nL_of (by omega), nL_mul, show (1000001 : Int64) = nL 1000001 from rfl]
          by_cases c5 : 1000001 < a * b
          · rw [if_pos (by rw [nL_lt (by omega) (by omega)]; exact c5), nL_back (by omega), Nat.min_eq_right (by omega)]
          · rw [if_neg (by rw [nL_lt (by omega) (by omega)]; exact c5), nL_back (by omega), Nat.min_eq_left (by omega)]
/-! cells -/
def tri : Nat → Nat
  | 0 => 0
  | n + 1 => tri n + n
theorem tri_eq : ∀ j, j < 13 → j * (j - 1) / 2 = tri j := by decide
theorem tri_le : ∀ j, j < 13 → tri j ≤ 66 := by decide
def cO (s i j : Nat) : Nat := (tri j + i) * 6 + s
theorem tri_up {j k : Nat} (h : j < k) : tri j + j ≤ tri k := by
  induction h with
  | refl => exact Nat.le_refl _
  | step _ ih =>
    show _ ≤ tri _ + _
    omega
theorem tri_inj {i j i' j' : Nat} (h : i < j) (h' : i' < j') (e : tri j + i = tri j' + i') : j = j' ∧ i = i' := by
  rcases Nat.lt_trichotomy j j' with c | c | c
  · have := tri_up c
    omega
  · subst c
    omega
  · have := tri_up c
    omega
theorem cO_inj {s i j s' i' j' : Nat} (hs : s < 6) (hs' : s' < 6) (h : i < j) (h' : i' < j') (e : cO s i j = cO s' i' j') : s = s' ∧ i = i' ∧ j = j' := by
  unfold cO at e
  have e1 : tri j + i = tri j' + i' := by omega
  have e2 : s = s' := by omega
  obtain ⟨e3, e4⟩ := tri_inj h h' e1
  exact ⟨e2, e4, e3⟩
theorem cO_lt {s i j : Nat} (hs : s < 6) (h : i < j) (hj : j ≤ 12) : cO s i j < 468 := by
  unfold cO
  have h1 : tri j + j ≤ tri 13 := tri_up (by omega)
  have h2 : tri 13 = 78 := by decide
  omega
theorem n_div2 {a : Nat} (h : a < 2 ^ 30) : nI a / 2 = nI (a / 2) := by
  apply Int32.toInt_inj.mp
  rw [Int32.toInt_div, nI_toInt (by omega), nI_toInt (by omega), show (2 : Int32).toInt = 2 by decide]
  have : Int.tdiv (a : Int) 2 = ((a / 2 : Nat) : Int) := by
    rw [Int.tdiv_eq_ediv_of_nonneg (by omega)]
    omega
  rw [this]
  exact Int.bmod_eq_of_le_mul_two (by omega) (by omega)
theorem p_cellOf {s i j : Nat} (hs : s < 6) (h : i < j) (hj : j ≤ 12) : m_Ch_cellOf (nI s) (nI i) (nI j) = some (nI (cO s i j)) := by
  have h2 : j * (j - 1) ≤ 12 * 11 := Nat.mul_le_mul hj (by omega)
  have e2 := tri_eq j (by omega)
  have e : nI j * (nI j - 1) / 2 = nI (tri j) := by
    rw [n_sub1 (by omega), pk_mul, n_div2 (by omega), e2]
  unfold m_Ch_cellOf f_Ch_cellOf_0 cO
  rw [e]
  simp (disch := omega) only [nm_x, b1_some, b2_some, b3_some, b4_some, ck_n, nI_clamp, nI_add, nI_1, n_1add, pk_mul, n_sub, n_sub1, n_addm1, l_2, l_3, l_4, l_5, l_6, l_7, l_8, l_9, l_10, l_11, l_12, l_13, l_20, l_30, l_31, l_36, l_120, l_150, l_200, l_240, l_248, l_400, l_468, l_601, l_936, l_937, l_1000, l_1872, l_2600, l_3744, l_3748, l_374400, l_1000001, l_1000002, c_lt_t, c_lt_f, c_le_t, c_le_f, c_eq_t, c_eq_f, c_n0, c_0le, c_0lt, c_0lt_f, c_le0, c_le0_t, c_m1, c_m1l, c_ne0, c_eq0, c_eq1, c_ne1, c_lt1, c_1lt, c_1lt_f, m1_neg, if_true, if_false]
theorem p_waysAt {χ : Nat → Nat → Int32} {c : Nat} (hc : c < 468) : m_Ch_waysAt χ (nI c) = some (χ 1 c) := by
  unfold m_Ch_waysAt f_Ch_waysAt_0
  simp (disch := omega) only [nm_x, b1_some, b2_some, b3_some, b4_some, ck_n, nI_clamp, nI_add, nI_1, n_1add, pk_mul, n_sub, n_sub1, n_addm1, l_2, l_3, l_4, l_5, l_6, l_7, l_8, l_9, l_10, l_11, l_12, l_13, l_20, l_30, l_31, l_36, l_120, l_150, l_200, l_240, l_248, l_400, l_468, l_601, l_936, l_937, l_1000, l_1872, l_2600, l_3744, l_3748, l_374400, l_1000001, l_1000002, c_lt_t, c_lt_f, c_le_t, c_le_f, c_eq_t, c_eq_f, c_n0, c_0le, c_0lt, c_0lt_f, c_le0, c_le0_t, c_m1, c_m1l, c_ne0, c_eq0, c_eq1, c_ne1, c_lt1, c_1lt, c_1lt_f, m1_neg, if_true, if_false]
theorem p_setWays {χ : Nat → Nat → Int32} {c : Nat} (hc : c < 468) (x : Int32) : m_Ch_setWays χ (nI c) x = some (st2 χ 1 c x) := by
  unfold m_Ch_setWays f_Ch_setWays_0
  simp (disch := omega) only [nm_x, b1_some, b2_some, b3_some, b4_some, ck_n, nI_clamp, nI_add, nI_1, n_1add, pk_mul, n_sub, n_sub1, n_addm1, l_2, l_3, l_4, l_5, l_6, l_7, l_8, l_9, l_10, l_11, l_12, l_13, l_20, l_30, l_31, l_36, l_120, l_150, l_200, l_240, l_248, l_400, l_468, l_601, l_936, l_937, l_1000, l_1872, l_2600, l_3744, l_3748, l_374400, l_1000001, l_1000002, c_lt_t, c_lt_f, c_le_t, c_le_f, c_eq_t, c_eq_f, c_n0, c_0le, c_0lt, c_0lt_f, c_le0, c_le0_t, c_m1, c_m1l, c_ne0, c_eq0, c_eq1, c_ne1, c_lt1, c_1lt, c_1lt_f, m1_neg, if_true, if_false]
theorem p_waysOf {χ : Nat → Nat → Int32} {s i j : Nat} (hs : s < 6) (h : i < j) (hj : j ≤ 12) : m_Ch_waysOf χ (nI s) (nI i) (nI j) = some (χ 1 (cO s i j)) := by
  unfold m_Ch_waysOf f_Ch_waysOf_0
  rw [p_cellOf hs h hj, b1_some, p_waysAt (cO_lt hs h hj), b1_some]
theorem p_symbolIn {χ : Nat → Nat → Int32} {k : Nat} (hk : k < 12) : m_Ch_symbolIn χ (nI k) = some (χ 2 k) := by
  unfold m_Ch_symbolIn f_Ch_symbolIn_0
  simp (disch := omega) only [nm_x, b1_some, b2_some, b3_some, b4_some, ck_n, nI_clamp, nI_add, nI_1, n_1add, pk_mul, n_sub, n_sub1, n_addm1, l_2, l_3, l_4, l_5, l_6, l_7, l_8, l_9, l_10, l_11, l_12, l_13, l_20, l_30, l_31, l_36, l_120, l_150, l_200, l_240, l_248, l_400, l_468, l_601, l_936, l_937, l_1000, l_1872, l_2600, l_3744, l_3748, l_374400, l_1000001, l_1000002, c_lt_t, c_lt_f, c_le_t, c_le_f, c_eq_t, c_eq_f, c_n0, c_0le, c_0lt, c_0lt_f, c_le0, c_le0_t, c_m1, c_m1l, c_ne0, c_eq0, c_eq1, c_ne1, c_lt1, c_1lt, c_1lt_f, m1_neg, if_true, if_false]
/-! segments -/
def sgl (a : Nat → Int32) : Nat → Nat → List Int32
  | _, 0 => []
  | i, n + 1 => a i :: sgl a (i + 1) n
def sg (a : Nat → Int32) (i j : Nat) : List Int32 := sgl a i (j - i)
theorem sgl_len (a : Nat → Int32) : ∀ (n i : Nat), (sgl a i n).length = n
  | 0, _ => rfl
  | n + 1, i => by
    show (sgl a (i + 1) n).length + 1 = n + 1
    rw [sgl_len a n]
theorem sg_len (a : Nat → Int32) (i j : Nat) : (sg a i j).length = j - i := sgl_len a _ _
theorem sgl_add (a : Nat → Int32) : ∀ (m i n : Nat), sgl a i (m + n) = sgl a i m ++ sgl a (i + m) n
  | 0, i, n => by
    rw [Nat.zero_add, Nat.add_zero]
    rfl
  | m + 1, i, n => by
    rw [show m + 1 + n = (m + n) + 1 by omega]
    show a i :: sgl a (i + 1) (m + n) = a i :: (sgl a (i + 1) m ++ sgl a (i + (m + 1)) n)
    rw [sgl_add a m (i + 1) n, show i + 1 + m = i + (m + 1) by omega]
theorem sg_cat (a : Nat → Int32) {i j k : Nat} (h : i ≤ j) (h2 : j ≤ k) : sg a i k = sg a i j ++ sg a j k := by
  unfold sg
  have e : k - i = (j - i) + (k - j) := by omega
  rw [e, sgl_add, show i + (j - i) = j by omega]
theorem sg_one (a : Nat → Int32) (i : Nat) : sg a i (i + 1) = [a i] := by
  unfold sg
  rw [show i + 1 - i = 1 by omega]
  rfl
theorem sg_nil (a : Nat → Int32) (i : Nat) : sg a i i = [] := by
  unfold sg
  rw [Nat.sub_self]
  rfl
theorem sg_cons (a : Nat → Int32) {i j : Nat} (h : i < j) : sg a i j = a i :: sg a (i + 1) j := by
  rw [sg_cat a (show i ≤ i + 1 by omega) (by omega), sg_one]
  rfl
theorem sgl_congr {a b : Nat → Int32} : ∀ (n i : Nat), (∀ k, i ≤ k → k < i + n → a k = b k) → sgl a i n = sgl b i n
  | 0, _, _ => rfl
  | n + 1, i, h => by
    show a i :: _ = b i :: _
    rw [h i (by omega) (by omega), sgl_congr n (i + 1) (fun k h1 h2 => h k (by omega) (by omega))]
theorem sg_congr {a b : Nat → Int32} {i j : Nat} (h : ∀ k, i ≤ k → k < j → a k = b k) : sg a i j = sg b i j :=
  sgl_congr _ _ (fun k h1 h2 => h k h1 (by omega))
theorem sgl_eq {a b : Nat → Int32} : ∀ (n i j : Nat), (sgl a i n = sgl b j n ↔ ∀ k, k < n → a (i + k) = b (j + k))
  | 0, i, j => ⟨fun _ k hk => by omega, fun _ => rfl⟩
  | n + 1, i, j => by
    show (a i :: sgl a (i + 1) n = b j :: sgl b (j + 1) n) ↔ _
    rw [List.cons.injEq, sgl_eq n (i + 1) (j + 1)]
    constructor
    · rintro ⟨h1, h2⟩ k hk
      match k with
      | 0 => exact h1
      | k + 1 =>
        have := h2 k (by omega)
        rw [show i + (k + 1) = i + 1 + k by omega, show j + (k + 1) = j + 1 + k by omega]
        exact this
    · intro h
      refine ⟨h 0 (by omega), fun k hk => ?_⟩
      have := h (k + 1) (by omega)
      rw [show i + 1 + k = i + (k + 1) by omega, show j + 1 + k = j + (k + 1) by omega]
      exact this
theorem sgl_mem {a : Nat → Int32} : ∀ (n i : Nat) (x : Int32), x ∈ sgl a i n → ∃ k, i ≤ k ∧ k < i + n ∧ x = a k
  | 0, _, _, h => by simp [sgl] at h
  | n + 1, i, x, h => by
    rcases List.mem_cons.mp h with h | h
    · exact ⟨i, by omega, by omega, h⟩
    · obtain ⟨k, h1, h2, h3⟩ := sgl_mem n (i + 1) x h
      exact ⟨k, by omega, by omega, h3⟩
