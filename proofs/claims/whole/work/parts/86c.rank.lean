/-! the pairs only get less: a measure -/
def KB : Nat := (2 ^ 32) ^ 200
def dg (x : Int32) : Nat := (x.toInt + 2147483648).toNat
theorem dg_lt (x : Int32) : dg x < 4294967296 := by
  have h1 := Int32.toInt_lt x
  have h2 := Int32.le_toInt x
  unfold dg
  omega
theorem dg_mono {x y : Int32} (h : x < y) : dg x < dg y := by
  have h0 := Int32.lt_iff_toInt_lt.mp h
  have h1 := Int32.toInt_lt y
  have h2 := Int32.le_toInt x
  unfold dg
  omega
def dig : List Int32 → Nat
  | [] => 0
  | x :: xs => dg x * 4294967296 ^ xs.length + dig xs
theorem dig_lt : ∀ (l : List Int32), dig l < 4294967296 ^ l.length
  | [] => by simp [dig]
  | x :: xs => by
    have ih := dig_lt xs
    have h := dg_lt x
    show dg x * 4294967296 ^ xs.length + dig xs < 4294967296 ^ (xs.length + 1)
    have h2 : (dg x + 1) * 4294967296 ^ xs.length ≤ 4294967296 * 4294967296 ^ xs.length := Nat.mul_le_mul_right _ h
    rw [Nat.add_mul, Nat.one_mul] at h2
    rw [Nat.pow_succ, Nat.mul_comm (4294967296 ^ xs.length) 4294967296]
    omega
theorem dig_mono : ∀ {a b : List Int32}, a.length = b.length → lx a b → dig a < dig b
  | [], _, _, h => h.elim
  | _ :: _, [], _, h => h.elim
  | x :: xs, y :: ys, hl, h => by
    have hl' : xs.length = ys.length := by simpa using hl
    have b1 := dig_lt xs
    show dg x * 4294967296 ^ xs.length + dig xs < dg y * 4294967296 ^ ys.length + dig ys
    rw [hl'] at b1 ⊢
    rcases h with h | ⟨rfl, h⟩
    · have h2 : (dg x + 1) * 4294967296 ^ ys.length ≤ dg y * 4294967296 ^ ys.length := Nat.mul_le_mul_right _ (dg_mono h)
      rw [Nat.add_mul, Nat.one_mul] at h2
      omega
    · have := dig_mono hl' h
      omega
def rk (x : List Int32) : Nat := x.length * KB + dig x
theorem dig_KB {x : List Int32} (h : x.length ≤ 200) : dig x < KB := by
  have h1 := dig_lt x
  have h2 : (4294967296 : Nat) ^ x.length ≤ KB := by
    unfold KB
    rw [show (2 : Nat) ^ 32 = 4294967296 by decide]
    exact Nat.pow_le_pow_right (by omega) h
  omega
theorem rk_mono {a b : List Int32} (ha : a.length ≤ 200) (h : cl a b) : rk a < rk b := by
  have h1 := dig_KB ha
  unfold rk
  rcases h with h | ⟨h, k⟩
  · have h2 : (a.length + 1) * KB ≤ b.length * KB := Nat.mul_le_mul_right _ h
    rw [Nat.add_mul, Nat.one_mul] at h2
    omega
  · rw [h]
    have := dig_mono h k
    omega
theorem rk_top {x : List Int32} (h : x.length ≤ 200) : rk x < 201 * KB := by
  have h1 := dig_KB h
  have h2 : (x.length + 1) * KB ≤ 201 * KB := Nat.mul_le_mul_right _ (by omega)
  rw [Nat.add_mul, Nat.one_mul] at h2
  unfold rk
  omega
def pm : List (List Int32) → Nat
  | [] => 402 * KB
  | [a] => rk a + 201 * KB
  | [a, b] => rk a + rk b
  | _ => 0
theorem pm_ins {p p' : List (List Int32)} {d : List Int32} (h : Ins p d p') (hd : d.length ≤ 200) (hp : ∀ x, x ∈ p → x.length ≤ 200) (hs : p.Pairwise cl) (hn : ¬ dom p d) : pm p' < pm p := by
  have td := rk_top hd
  rcases h with ⟨rfl, rfl⟩ | ⟨a, rfl, h, rfl⟩ | ⟨a, rfl, h, rfl⟩ | ⟨a, b, rfl, h, rfl⟩ | ⟨a, b, rfl, h, h2, rfl⟩ | ⟨a, b, rfl, h, rfl⟩
  · show rk d + 201 * KB < 402 * KB
    omega
  · show rk d + rk a < rk a + 201 * KB
    omega
  · show rk a + rk d < rk a + 201 * KB
    omega
  · have hab : cl a b := by simpa using hs
    have h1 := rk_mono hd (cl_trans h hab)
    show rk d + rk a < rk a + rk b
    omega
  · have h1 := rk_mono hd h2
    show rk a + rk d < rk a + rk b
    omega
  · exfalso
    apply hn
    have hab : cl a b := by simpa using hs
    rcases h with h | h
    · exact Or.inl (by simp [h])
    · refine Or.inr ⟨rfl, fun c hc => ?_⟩
      simp only [List.mem_cons, List.not_mem_nil, or_false] at hc
      rcases hc with rfl | rfl
      · exact cl_trans hab h
      · exact h
