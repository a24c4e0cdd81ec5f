/-! rows for running a pure function: simp (disch := omega) only [..] -/
theorem c_lt_t {a b : Nat} (h : a < b) (hb : b < 2 ^ 31) : (nI a < nI b) = True := by
  rw [i_lt (by omega) hb]; exact eq_true h
theorem c_lt_f {a b : Nat} (h : b ≤ a) (ha : a < 2 ^ 31) : (nI a < nI b) = False := by
  rw [i_lt ha (by omega)]; exact eq_false (by omega)
theorem c_le_t {a b : Nat} (h : a ≤ b) (hb : b < 2 ^ 31) : (nI a ≤ nI b) = True := by
  rw [i_le (by omega) hb]; exact eq_true h
theorem c_le_f {a b : Nat} (h : b < a) (ha : a < 2 ^ 31) : (nI a ≤ nI b) = False := by
  rw [i_le ha (by omega)]; exact eq_false (by omega)
theorem c_eq_t {a b : Nat} (h : a = b) : (nI a = nI b) = True := by rw [h]; exact eq_self _
theorem c_eq_f {a b : Nat} (h : a ≠ b) (ha : a < 2 ^ 31) (hb : b < 2 ^ 31) : (nI a = nI b) = False := by
  rw [i_eq ha hb]; exact eq_false h
theorem c_n0 {a : Nat} (h : a < 2 ^ 31) : (nI a < 0) = False := eq_false (nI_pos h)
theorem c_0le {a : Nat} (h : a < 2 ^ 31) : (0 ≤ nI a) = True := eq_true (nI_pos' h)
theorem c_0lt {a : Nat} (h0 : 0 < a) (h : a < 2 ^ 31) : (0 < nI a) = True := by
  rw [← nI_0]; exact c_lt_t h0 h
theorem c_0lt_f {a : Nat} (h0 : a = 0) : (0 < nI a) = False := by
  rw [h0, ← nI_0]; exact c_lt_f (Nat.le_refl _) (by omega)
theorem c_le0 {a : Nat} (h0 : 0 < a) (h : a < 2 ^ 31) : (nI a ≤ 0) = False := by
  rw [← nI_0]; exact c_le_f h0 h
theorem c_le0_t {a : Nat} (h0 : a = 0) : (nI a ≤ 0) = True := by
  rw [h0, ← nI_0]; exact c_le_t (Nat.le_refl _) (by omega)
theorem c_m1 {a : Nat} (h : a < 2 ^ 31) : (nI a = -1) = False := eq_false (nI_neg h)
theorem c_m1l {a : Nat} (h : a < 2 ^ 31) : (-1 = nI a) = False := eq_false (fun e => nI_neg h e.symm)
theorem c_ne0 {a : Nat} (h0 : 0 < a) (h : a < 2 ^ 31) : (nI a = 0) = False := eq_false (nI_ne0 h0 h)
theorem c_eq0 {a : Nat} (h0 : a = 0) : (nI a = 0) = True := by rw [h0, nI_0]; exact eq_self _
theorem c_eq1 {a : Nat} (h0 : a = 1) : (nI a = 1) = True := by rw [h0]; exact eq_self _
theorem c_ne1 {a : Nat} (h0 : a ≠ 1) (h : a < 2 ^ 31) : (nI a = 1) = False := by
  rw [show (1 : Int32) = nI 1 from rfl]; exact c_eq_f h0 h (by omega)
theorem c_lt1 {a : Nat} (h0 : a = 0) : (nI a < 1) = True := by
  rw [show (1 : Int32) = nI 1 from rfl]; exact c_lt_t (by omega) (by omega)
theorem c_1lt {a : Nat} (h0 : 1 < a) (h : a < 2 ^ 31) : (1 < nI a) = True := by
  rw [show (1 : Int32) = nI 1 from rfl]; exact c_lt_t (by omega) (by omega)
theorem c_1lt_f {a : Nat} (h0 : a ≤ 1) : (1 < nI a) = False := by
  rw [show (1 : Int32) = nI 1 from rfl]; exact c_lt_f (by omega) (by omega)
theorem n_sub {a b : Nat} (h : b ≤ a) : nI a - nI b = nI (a - b) := by
  have e : a = (a - b) + b := by omega
  have e2 : nI a = nI (a - b) + nI b := by rw [nI_add, ← e]
  rw [e2]
  exact Int32.add_sub_cancel _ _
theorem n_sub1 {a : Nat} (h : 1 ≤ a) : nI a - 1 = nI (a - 1) := nI_sub1 h
theorem n_addm1 {a : Nat} (h : 1 ≤ a) : nI a + (-1) = nI (a - 1) := by
  rw [← nI_sub1 h, Int32.sub_eq_add_neg]
theorem n_1add (a : Nat) : 1 + nI a = nI (1 + a) := nI_add 1 a
theorem l_2 : (2 : Int32) = nI 2 := id rfl
theorem l_3 : (3 : Int32) = nI 3 := id rfl
theorem l_4 : (4 : Int32) = nI 4 := id rfl
theorem l_5 : (5 : Int32) = nI 5 := id rfl
theorem l_6 : (6 : Int32) = nI 6 := id rfl
theorem l_7 : (7 : Int32) = nI 7 := id rfl
theorem l_8 : (8 : Int32) = nI 8 := id rfl
theorem l_9 : (9 : Int32) = nI 9 := id rfl
theorem l_10 : (10 : Int32) = nI 10 := id rfl
theorem l_11 : (11 : Int32) = nI 11 := id rfl
theorem l_12 : (12 : Int32) = nI 12 := id rfl
theorem l_13 : (13 : Int32) = nI 13 := id rfl
theorem l_20 : (20 : Int32) = nI 20 := id rfl
theorem l_30 : (30 : Int32) = nI 30 := id rfl
theorem l_31 : (31 : Int32) = nI 31 := id rfl
theorem l_36 : (36 : Int32) = nI 36 := id rfl
theorem l_120 : (120 : Int32) = nI 120 := id rfl
theorem l_150 : (150 : Int32) = nI 150 := id rfl
theorem l_200 : (200 : Int32) = nI 200 := id rfl
theorem l_240 : (240 : Int32) = nI 240 := id rfl
theorem l_248 : (248 : Int32) = nI 248 := id rfl
theorem l_400 : (400 : Int32) = nI 400 := id rfl
theorem l_468 : (468 : Int32) = nI 468 := id rfl
theorem l_601 : (601 : Int32) = nI 601 := id rfl
theorem l_936 : (936 : Int32) = nI 936 := id rfl
theorem l_937 : (937 : Int32) = nI 937 := id rfl
theorem l_1000 : (1000 : Int32) = nI 1000 := id rfl
theorem l_1872 : (1872 : Int32) = nI 1872 := id rfl
theorem l_2600 : (2600 : Int32) = nI 2600 := id rfl
theorem l_3744 : (3744 : Int32) = nI 3744 := id rfl
theorem l_3748 : (3748 : Int32) = nI 3748 := id rfl
theorem l_374400 : (374400 : Int32) = nI 374400 := id rfl
theorem l_1000001 : (1000001 : Int32) = nI 1000001 := id rfl
theorem l_1000002 : (1000002 : Int32) = nI 1000002 := id rfl
theorem m1_neg : ((-1 : Int32) < 0) = True := by decide
theorem b1_some {α β : Type} (a : α) (k : α → Option β) : bd1 (some a) k = k a := id rfl
theorem b2_some {α α2 β : Type} (a : α) (b : α2) (k : α → α2 → Option β) : bd2 (some (a, b)) k = k a b := id rfl
theorem b3_some {α α2 α3 β : Type} (a : α) (b : α2) (c : α3) (k : α → α2 → α3 → Option β) : bd3 (some (a, b, c)) k = k a b c := id rfl
theorem b4_some {α α2 α3 α4 β : Type} (a : α) (b : α2) (c : α3) (d : α4) (k : α → α2 → α3 → α4 → Option β) : bd4 (some (a, b, c, d)) k = k a b c d := id rfl
theorem nm_x {α β : Type} (x : α) (k : α → Option β) : nm x k = k x := id rfl
