/-! lengths and splits -/
theorem Wk_le {a : Nat → Int32} {el : Nat → Nat} {j : Nat} : ∀ (l : List Int32) (q p : Nat), Wk a el j l q p → p ≤ j
  | [], _, p, h => by have : p = j := h; omega
  | x :: xs, q, p, h => by
    have h' : (if x < 0 then p + el q ≤ j ∧ Wk a el j xs (q + 1) (p + el q) else p < j ∧ a p = x ∧ Wk a el j xs q (p + 1)) := h
    by_cases c : x < 0
    · rw [if_pos c] at h'
      omega
    · rw [if_neg c] at h'
      omega
theorem Wk_flat {a : Nat → Int32} {el : Nat → Nat} {j : Nat} {g : Int32 → List Int32} : ∀ (l : List Int32) (q p : Nat), Wk a el j l q p → (∀ z, z < (vl l).length → g ((vl l).getD z 0) = sgl a (So el l q p (q + z)) (el (q + z))) → sg a p j = l.flatMap (sub g)
  | [], q, p, h, _ => by
    have : p = j := h
    subst this
    rw [sg_nil]
    rfl
  | x :: xs, q, p, h, hg => by
    have h' : (if x < 0 then p + el q ≤ j ∧ Wk a el j xs (q + 1) (p + el q) else p < j ∧ a p = x ∧ Wk a el j xs q (p + 1)) := h
    rw [List.flatMap_cons]
    by_cases c : x < 0
    · rw [if_pos c] at h'
      rw [vl_cons_n c] at hg
      have h0 := hg 0 (by simp)
      have e0 : So el (x :: xs) q p (q + 0) = p := by
        show (if x < 0 then (if q + 0 = q then p else _) else _) = p
        rw [if_pos c, if_pos (Nat.add_zero q)]
      rw [e0] at h0
      have ih := Wk_flat (g := g) xs (q + 1) (p + el q) h'.2 (fun z hz => by
        have := hg (z + 1) (by simp; omega)
        have e1 : So el (x :: xs) q p (q + (z + 1)) = So el xs (q + 1) (p + el q) (q + 1 + z) := by
          show (if x < 0 then (if q + (z + 1) = q then p else So el xs (q + 1) (p + el q) (q + (z + 1))) else _) = _
          rw [if_pos c, if_neg (by omega), show q + (z + 1) = q + 1 + z by omega]
        rw [e1] at this
        rw [show q + 1 + z = q + (z + 1) by omega]
        rw [show q + 1 + z = q + (z + 1) by omega] at this
        exact this)
      rw [← ih]
      have e2 : sub g x = sg a p (p + el q) := by
        unfold sub sg
        rw [if_pos c, show p + el q - p = el q by omega]
        exact h0
      rw [e2]
      exact sg_cat a (by omega) h'.1
    · rw [if_neg c] at h'
      rw [vl_cons_p c] at hg
      have ih := Wk_flat (g := g) xs q (p + 1) h'.2.2 (fun z hz => by
        have := hg z hz
        have e1 : So el (x :: xs) q p (q + z) = So el xs q (p + 1) (q + z) := by
          show (if x < 0 then _ else So el xs q (p + 1) (q + z)) = _
          rw [if_neg c]
        rw [e1] at this
        exact this)
      rw [← ih, sg_cons a h'.1, h'.2.1]
      unfold sub
      rw [if_neg c]
      rfl
theorem flat_Wk {a : Nat → Int32} {el : Nat → Nat} {j : Nat} {g : Int32 → List Int32} : ∀ (l : List Int32) (q p : Nat), p ≤ j → sg a p j = l.flatMap (sub g) → (∀ z, z < (vl l).length → el (q + z) = (g ((vl l).getD z 0)).length) → Wk a el j l q p ∧ ∀ z, z < (vl l).length → sgl a (So el l q p (q + z)) (el (q + z)) = g ((vl l).getD z 0)
  | [], q, p, hp, h, _ => by
    have : (sg a p j).length = 0 := by rw [h]; rfl
    rw [sg_len] at this
    exact ⟨show p = j by omega, fun z hz => by simp [vl] at hz⟩
  | x :: xs, q, p, hp, h, hg => by
    rw [List.flatMap_cons] at h
    by_cases c : x < 0
    · rw [vl_cons_n c] at hg ⊢
      have h0 : el q = (g x).length := hg 0 (by simp)
      have es : sub g x = g x := by unfold sub; rw [if_pos c]
      rw [es] at h
      have hlen := congrArg List.length h
      rw [sg_len, List.length_append] at hlen
      have hle : p + el q ≤ j := by omega
      rw [sg_cat a (show p ≤ p + el q by omega) hle] at h
      obtain ⟨e1, e2⟩ := List.append_inj h (by rw [sg_len, ← h0]; omega)
      obtain ⟨i1, i2⟩ := flat_Wk xs (q + 1) (p + el q) hle e2 (fun z hz => by
        have := hg (z + 1) (by simp; omega)
        rw [show q + 1 + z = q + (z + 1) by omega]
        exact this)
      constructor
      · show (if x < 0 then _ else _)
        rw [if_pos c]
        exact ⟨hle, i1⟩
      · intro z hz
        match z with
        | 0 =>
          have e0 : So el (x :: xs) q p (q + 0) = p := by
            show (if x < 0 then (if q + 0 = q then p else _) else _) = p
            rw [if_pos c, if_pos (Nat.add_zero q)]
          rw [e0]
          unfold sg at e1
          rw [show p + el q - p = el q by omega] at e1
          exact e1
        | z + 1 =>
          have e3 : So el (x :: xs) q p (q + (z + 1)) = So el xs (q + 1) (p + el q) (q + 1 + z) := by
            show (if x < 0 then (if q + (z + 1) = q then p else So el xs (q + 1) (p + el q) (q + (z + 1))) else _) = _
            rw [if_pos c, if_neg (by omega), show q + (z + 1) = q + 1 + z by omega]
          rw [e3]
          have := i2 z (by simp at hz; omega)
          rw [show q + (z + 1) = q + 1 + z by omega]
          exact this
    · rw [vl_cons_p c] at hg ⊢
      have es : sub g x = [x] := by unfold sub; rw [if_neg c]
      rw [es] at h
      have hlen := congrArg List.length h
      rw [sg_len, List.length_append, List.length_singleton] at hlen
      have hle : p < j := by omega
      rw [sg_cons a hle, List.singleton_append, List.cons.injEq] at h
      obtain ⟨i1, i2⟩ := flat_Wk xs q (p + 1) (by omega) h.2 hg
      constructor
      · show (if x < 0 then _ else _)
        rw [if_neg c]
        exact ⟨hle, h.1, i1⟩
      · intro z hz
        have e3 : So el (x :: xs) q p (q + z) = So el xs q (p + 1) (q + z) := by
          show (if x < 0 then _ else So el xs q (p + 1) (q + z)) = _
          rw [if_neg c]
        rw [e3]
        exact i2 z hz
/-- the first place of the same variable -/
def fo (l : List Int32) (q : Nat) : Nat := (vl l).idxOf ((vl l).getD q 0)
theorem fo_lt {l : List Int32} {q : Nat} (hq : q < (vl l).length) : fo l q < (vl l).length := List.idxOf_lt_length_of_mem (getD_mem hq)
theorem fo_same {l : List Int32} {q : Nat} (hq : q < (vl l).length) : (vl l).getD (fo l q) 0 = (vl l).getD q 0 := idx_getD (getD_mem hq)
/-- the segments that lengths tell -/
def gsOf (a : Nat → Int32) (el : Nat → Nat) (i : Nat) (l : List Int32) : List (List Int32) := (dv l).map (fun x => sgl a (So el l 0 i ((vl l).idxOf x)) (el ((vl l).idxOf x)))
theorem gsOf_len {a : Nat → Int32} {el : Nat → Nat} {i : Nat} {l : List Int32} : (gsOf a el i l).length = (dv l).length := by simp [gsOf]
theorem gsOf_asg {a : Nat → Int32} {el : Nat → Nat} {i : Nat} {l : List Int32} {x : Int32} (h : x ∈ dv l) : asg (dv l) (gsOf a el i l) x = sgl a (So el l 0 i ((vl l).idxOf x)) (el ((vl l).idxOf x)) := asg_map _ _ x h
theorem vl_dv {l : List Int32} {x : Int32} (h : x ∈ vl l) : x ∈ dv l := by
  rw [dv_vl]
  exact dv_mem.mpr ⟨h, vl_neg h⟩
theorem dv_in_vl {l : List Int32} {x : Int32} (h : x ∈ dv l) : x ∈ vl l := by
  rw [dv_vl] at h
  exact (dv_mem.mp h).1
theorem Cu_spl {a : Nat → Int32} {el : Nat → Nat} {i j : Nat} {l : List Int32} (h : Cu a el (fo l) i j l) : Spl l (sg a i j) (gsOf a el i l) ∧ ∀ q, q < (vl l).length → el q = (asg (dv l) (gsOf a el i l) ((vl l).getD q 0)).length := by
  obtain ⟨h1, h2⟩ := h
  refine ⟨⟨gsOf_len, ?_⟩, ?_⟩
  · refine Wk_flat l 0 i h1 (fun z hz => ?_)
    rw [gsOf_asg (vl_dv (getD_mem hz)), Nat.zero_add]
    obtain ⟨q1, q2⟩ := h2 z hz
    unfold fo at q1 q2
    rw [q1]
    exact q2
  · intro q hq
    rw [gsOf_asg (vl_dv (getD_mem hq)), sgl_len]
    exact (h2 q hq).1.symm
theorem spl_Cu {a : Nat → Int32} {el : Nat → Nat} {i j : Nat} {l : List Int32} (hij : i ≤ j) {gs : List (List Int32)} (h : Spl l (sg a i j) gs) (hel : ∀ q, q < (vl l).length → el q = (asg (dv l) gs ((vl l).getD q 0)).length) : Cu a el (fo l) i j l ∧ gsOf a el i l = gs := by
  obtain ⟨k1, k2⟩ := flat_Wk (el := el) (g := asg (dv l) gs) l 0 i hij h.2 (fun z hz => by rw [Nat.zero_add]; exact hel z hz)
  have e : ∀ q, q < (vl l).length → el (fo l q) = el q ∧ sgl a (So el l 0 i (fo l q)) (el q) = sgl a (So el l 0 i q) (el q) := by
    intro q hq
    have h1 := hel q hq
    have h2 := hel (fo l q) (fo_lt hq)
    rw [fo_same hq] at h2
    have e1 : el (fo l q) = el q := by rw [h1, h2]
    refine ⟨e1, ?_⟩
    have k3 := k2 q hq
    have k4 := k2 (fo l q) (fo_lt hq)
    rw [Nat.zero_add] at k3 k4
    rw [fo_same hq, e1] at k4
    rw [k3, k4]
  refine ⟨⟨k1, e⟩, ?_⟩
  have e2 : gsOf a el i l = (dv l).map (asg (dv l) gs) := by
    unfold gsOf
    apply List.map_congr_left
    intro x hx
    have hm := dv_in_vl hx
    have hi := List.idxOf_lt_length_of_mem hm
    have := k2 _ hi
    rw [Nat.zero_add, idx_getD hm] at this
    exact this
  rw [e2]
  exact map_asg _ _ (dv_nd l) h.1
/-! lengths in their order -/
def val (left : Nat) (el : Nat → Nat) : Nat → Nat
  | 0 => 0
  | P + 1 => val left el P + (el P - 1) * left ^ P
theorem val_congr {left : Nat} {e e' : Nat → Nat} : ∀ (P : Nat), (∀ k, k < P → e k = e' k) → val left e P = val left e' P
  | 0, _ => rfl
  | P + 1, h => by
    show val left e P + (e P - 1) * left ^ P = val left e' P + (e' P - 1) * left ^ P
    rw [val_congr P (fun k hk => h k (by omega)), h P (by omega)]
theorem val_lt {left : Nat} (hl : 1 ≤ left) {e : Nat → Nat} : ∀ (P : Nat), (∀ k, k < P → 1 ≤ e k ∧ e k ≤ left) → val left e P < left ^ P
  | 0, _ => by simp [val]
  | P + 1, h => by
    have ih := val_lt hl P (fun k hk => h k (by omega))
    obtain ⟨h1, h2⟩ := h P (by omega)
    show val left e P + (e P - 1) * left ^ P < left ^ (P + 1)
    have h3 : (e P - 1 + 1) * left ^ P ≤ left * left ^ P := Nat.mul_le_mul_right _ (by omega)
    rw [Nat.add_mul, Nat.one_mul] at h3
    rw [Nat.pow_succ, Nat.mul_comm (left ^ P) left]
    omega
theorem val_inj {left : Nat} (hl : 1 ≤ left) {e e' : Nat → Nat} : ∀ (P : Nat), (∀ k, k < P → 1 ≤ e k ∧ e k ≤ left) → (∀ k, k < P → 1 ≤ e' k ∧ e' k ≤ left) → val left e P = val left e' P → ∀ k, k < P → e k = e' k
  | 0, _, _, _, k, hk => by omega
  | P + 1, h, h', he, k, hk => by
    have b1 := val_lt hl P (fun k hk => h k (by omega))
    have b2 := val_lt hl P (fun k hk => h' k (by omega))
    have he' : val left e P + (e P - 1) * left ^ P = val left e' P + (e' P - 1) * left ^ P := he
    have hpos : 0 < left ^ P := by omega
    have d1 : (val left e P + (e P - 1) * left ^ P) / left ^ P = e P - 1 := by
      rw [Nat.add_mul_div_right _ _ hpos, Nat.div_eq_of_lt b1]
      omega
    have d2 : (val left e' P + (e' P - 1) * left ^ P) / left ^ P = e' P - 1 := by
      rw [Nat.add_mul_div_right _ _ hpos, Nat.div_eq_of_lt b2]
      omega
    rw [he', d2] at d1
    have hP := h P (by omega)
    have hP' := h' P (by omega)
    by_cases c : k = P
    · subst c
      omega
    · refine val_inj hl P (fun k hk => h k (by omega)) (fun k hk => h' k (by omega)) ?_ k (by omega)
      rw [d1] at he'
      omega
/-- carrying: the places before k were full and begin again -/
theorem val_carry {left : Nat} (hl : 1 ≤ left) {e e' : Nat → Nat} {k : Nat} (h1 : ∀ z, z < k → e z = left ∧ e' z = 1) : ∀ P, k ≤ P → (∀ z, k ≤ z → z < P → e' z = e z) → val left e P + 1 = val left e' P + left ^ k := by
  have base : val left e k + 1 = left ^ k ∧ val left e' k = 0 := by
    have key : ∀ q, q ≤ k → val left e q + 1 = left ^ q ∧ val left e' q = 0 := by
      intro q
      induction q with
      | zero => intro _; simp [val]
      | succ q ih =>
        intro hq
        obtain ⟨i1, i2⟩ := ih (by omega)
        obtain ⟨z1, z2⟩ := h1 q (by omega)
        show val left e q + (e q - 1) * left ^ q + 1 = _ ∧ val left e' q + (e' q - 1) * left ^ q = 0
        rw [z1, z2, i2]
        refine ⟨?_, by simp⟩
        have : (left - 1) * left ^ q + left ^ q = left ^ (q + 1) := by
          obtain ⟨m, rfl⟩ : ∃ m, left = m + 1 := ⟨left - 1, by omega⟩
          rw [Nat.pow_succ, Nat.mul_comm ((m + 1) ^ q) (m + 1), Nat.add_mul, Nat.one_mul, Nat.add_sub_cancel]
        omega
    exact key k (Nat.le_refl _)
  intro P
  induction P with
  | zero =>
    intro hP _
    have : k = 0 := by omega
    subst this
    simp [val]
  | succ P ih =>
    intro hP hz
    by_cases c : k ≤ P
    · have i := ih c (fun z z1 z2 => hz z z1 (by omega))
      show val left e P + (e P - 1) * left ^ P + 1 = val left e' P + (e' P - 1) * left ^ P + left ^ k
      rw [hz P c (by omega)]
      omega
    · have : k = P + 1 := by omega
      subst this
      omega
