/-! LAYER 2: pure rows. Fuel: a thing holds for all fuel from some number on. -/
def Ev (P : Nat → Prop) : Prop := ∃ n0, ∀ N, n0 ≤ N → P N
theorem Ev.of {P : Nat → Prop} (h : ∀ N, P N) : Ev P := ⟨0, fun N _ => h N⟩
theorem Ev.and {P Q : Nat → Prop} (h : Ev P) (k : Ev Q) : Ev (fun N => P N ∧ Q N) := by
  obtain ⟨a, ha⟩ := h
  obtain ⟨b, hb⟩ := k
  exact ⟨max a b, fun N hN => ⟨ha N (by omega), hb N (by omega)⟩⟩
theorem Ev.mono {P Q : Nat → Prop} (h : Ev P) (k : ∀ N, P N → Q N) : Ev Q := by
  obtain ⟨a, ha⟩ := h
  exact ⟨a, fun N hN => k N (ha N hN)⟩
theorem Ev.ge {P : Nat → Prop} (n0 : Nat) (h : ∀ N, n0 ≤ N → P N) : Ev P := ⟨n0, h⟩
theorem ck_i {β : Type} {i : Int32} {n : Nat} {k : Option β} (h : vp_in i n) : ck i n k = k := by
  unfold ck
  rw [if_neg h]
theorem ck_n {β : Type} {j n : Nat} {k : Option β} (h : j < n) (hn : n < 2 ^ 31) : ck (nI j) n k = k := ck_i (vp_in_nI h hn)
theorem nm_d {α β : Type} (x : α) (k : α → Option β) : nm x k = k x := rfl
theorem cb_0 {β : Type} (k : Option β) : cb 0 k = k := by unfold cb; rw [if_pos (Or.inl rfl)]
theorem cb_1 {β : Type} (k : Option β) : cb 1 k = k := by unfold cb; rw [if_pos (Or.inr rfl)]
theorem st2_s (f : Nat → Nat → Int32) (a k : Nat) (x : Int32) : st2 f a k x a k = x := by simp [st2, upd]
theorem st2_k (f : Nat → Nat → Int32) (a : Nat) {k j : Nat} (x : Int32) (h : j ≠ k) : st2 f a k x a j = f a j := by simp [st2, upd, h]
theorem st2_a (f : Nat → Nat → Int32) {a b : Nat} (k : Nat) (x : Int32) (h : b ≠ a) : st2 f a k x b = f b := by simp [st2, h]
theorem st2_aj (f : Nat → Nat → Int32) {a b : Nat} (k j : Nat) (x : Int32) (h : b ≠ a) : st2 f a k x b j = f b j := by simp [st2, h]
theorem nI_m1 : (-1 : Int32) = nI 4294967295 := by decide
theorem nI_inj {a b : Nat} (ha : a < 2 ^ 31) (hb : b < 2 ^ 31) (h : nI a = nI b) : a = b := (nI_eq ha hb).mp h
theorem nI_neg {n : Nat} (h : n < 2 ^ 31) : ¬ nI n = -1 := by
  intro e
  have h1 := nI_toInt h
  rw [e] at h1
  have h2 : (-1 : Int32).toInt = -1 := by decide
  rw [h2] at h1
  omega
theorem nI_sub1 {n : Nat} (h : 1 ≤ n) : nI n - 1 = nI (n - 1) := by
  have : n = (n - 1) + 1 := by omega
  rw [this]
  exact nI_pred (n - 1)
theorem i_lt {a b : Nat} (ha : a < 2 ^ 31) (hb : b < 2 ^ 31) : (nI a < nI b) = (a < b) := propext (nI_ltI ha hb)
theorem i_le {a b : Nat} (ha : a < 2 ^ 31) (hb : b < 2 ^ 31) : (nI a ≤ nI b) = (a ≤ b) := propext (nI_leI ha hb)
theorem i_eq {a b : Nat} (ha : a < 2 ^ 31) (hb : b < 2 ^ 31) : (nI a = nI b) = (a = b) := propext (nI_eq ha hb)
/-- an int argument: too small, too large, or a number below n -/
theorem i_cases (x : Int32) {n : Nat} (hn : n < 2 ^ 31) : x < 0 ∨ (0 ≤ x ∧ nI n ≤ x) ∨ ∃ j : Nat, j < n ∧ x = nI j := by
  rcases pk_ix x hn with h | h | h
  · exact Or.inl h
  · refine Or.inr (Or.inl ⟨?_, h⟩)
    have h1 : (0 : Int32) ≤ nI n := nI_pos' hn
    exact Int32.le_trans h1 h
  · exact Or.inr (Or.inr h)
theorem if_lt {β : Sort _} {a b : Nat} {x y : β} (ha : a < 2 ^ 31) (hb : b < 2 ^ 31) : (if nI a < nI b then x else y) = if a < b then x else y := by simp only [i_lt ha hb]
theorem if_le {β : Sort _} {a b : Nat} {x y : β} (ha : a < 2 ^ 31) (hb : b < 2 ^ 31) : (if nI a ≤ nI b then x else y) = if a ≤ b then x else y := by simp only [i_le ha hb]
theorem if_eq {β : Sort _} {a b : Nat} {x y : β} (ha : a < 2 ^ 31) (hb : b < 2 ^ 31) : (if nI a = nI b then x else y) = if a = b then x else y := by simp only [i_eq ha hb]
theorem p_addSort {γ : Nat → Nat → Int32} {n : Nat} (h : γ 0 0 = nI n) (hn : n ≤ 6) : m_Gr_addSort γ = if n < 6 then some (nI n, st2 γ 0 0 (nI (n + 1))) else some (-1, γ) := by
  unfold m_Gr_addSort f_Gr_addSort_0
  rw [h, show (6 : Int32) = nI 6 from rfl, if_lt (by omega) (by omega)]
  by_cases c : n < 6
  · rw [if_pos c, if_pos c, nm_d, nI_1, st2_s, nI_sub1 (by omega)]
    rfl
  · rw [if_neg c, if_neg c]
theorem p_hasSort {γ : Nat → Nat → Int32} {n : Nat} (h : γ 0 0 = nI n) (hn : n ≤ 6) (x : Int32) : (∃ j : Nat, j < n ∧ x = nI j ∧ m_Gr_hasSort γ x = some 1) ∨ ((x < 0 ∨ nI n ≤ x) ∧ m_Gr_hasSort γ x = some 0) := by
  unfold m_Gr_hasSort f_Gr_hasSort_0
  rcases i_cases x (show n < 2 ^ 31 by omega) with c | ⟨c1, c2⟩ | ⟨j, hj, rfl⟩
  · right
    exact ⟨Or.inl c, by rw [if_pos c]⟩
  · right
    refine ⟨Or.inr c2, ?_⟩
    rw [if_neg (Int32.not_lt.mpr c1), h, if_pos c2]
  · left
    refine ⟨j, hj, rfl, ?_⟩
    rw [if_neg (nI_pos (by omega)), h, if_neg (nI_ge hj (by omega))]
