/-! how many: a number, many (1000001), endless (1000002) -/
def wplus (a b : Nat) : Nat := if a = 1000002 ∨ b = 1000002 then 1000002 else min (a + b) 1000001
def wtimes (a b : Nat) : Nat := if a = 0 ∨ b = 0 then 0 else if a = 1000002 ∨ b = 1000002 then 1000002 else min (a * b) 1000001
def Inf (A : List Int32 → Prop) : Prop := ∀ k, ∃ l : List (List Int32), l.Nodup ∧ k ≤ l.length ∧ ∀ c, c ∈ l → A c
def Cnt (A : List Int32 → Prop) (n : Nat) : Prop :=
  (∃ l : List (List Int32), l.Nodup ∧ (∀ c, c ∈ l ↔ A c) ∧ n = min l.length 1000001) ∨ (n = 1000002 ∧ Inf A)
theorem nd_sub {α : Type} [DecidableEq α] : ∀ {l m : List α}, l.Nodup → (∀ c, c ∈ l → c ∈ m) → l.length ≤ m.length
  | [], _, _, _ => by simp
  | x :: xs, m, h, s => by
    rw [List.nodup_cons] at h
    have h1 : xs.length ≤ (m.erase x).length := by
      refine nd_sub h.2 (fun c hc => ?_)
      have hne : c ≠ x := fun e => h.1 (e ▸ hc)
      exact (List.mem_erase_of_ne hne).mpr (s c (List.mem_cons_of_mem _ hc))
    have h2 : x ∈ m := s x List.mem_cons_self
    rw [List.length_erase_of_mem h2] at h1
    have h3 : 0 < m.length := List.length_pos_of_mem h2
    simp only [List.length_cons]
    omega
theorem Inf.mono {A B : List Int32 → Prop} (h : Inf A) (s : ∀ c, A c → B c) : Inf B := by
  intro k
  obtain ⟨l, h1, h2, h3⟩ := h k
  exact ⟨l, h1, h2, fun c hc => s c (h3 c hc)⟩
theorem Inf.not {A : List Int32 → Prop} (h : Inf A) {l : List (List Int32)} (k : ∀ c, A c → c ∈ l) : False := by
  obtain ⟨m, h1, h2, h3⟩ := h (l.length + 1)
  have := nd_sub h1 (fun c hc => k c (h3 c hc))
  omega
theorem Inf.ex {A : List Int32 → Prop} (h : Inf A) : ∃ c, A c := by
  obtain ⟨l, h1, h2, h3⟩ := h 1
  match l, h2, h3 with
  | x :: _, _, h3 => exact ⟨x, h3 x List.mem_cons_self⟩
  | [], h2, _ => simp at h2
theorem Cnt.inf {A : List Int32 → Prop} (h : Inf A) : Cnt A 1000002 := Or.inr ⟨rfl, h⟩
theorem Cnt.uniq {A : List Int32 → Prop} {a b : Nat} (h : Cnt A a) (k : Cnt A b) : a = b := by
  rcases h with ⟨l, h1, h2, h3⟩ | ⟨h1, h2⟩
  · rcases k with ⟨m, k1, k2, k3⟩ | ⟨k1, k2⟩
    · have e1 := nd_sub h1 (fun c hc => (k2 c).mpr ((h2 c).mp hc))
      have e2 := nd_sub k1 (fun c hc => (h2 c).mpr ((k2 c).mp hc))
      omega
    · exact (k2.not (fun c hc => (h2 c).mpr hc)).elim
  · rcases k with ⟨m, k1, k2, k3⟩ | ⟨k1, k2⟩
    · exact (h2.not (fun c hc => (k2 c).mpr hc)).elim
    · omega
theorem Cnt.congr {A B : List Int32 → Prop} {n : Nat} (h : Cnt A n) (k : ∀ c, A c ↔ B c) : Cnt B n := by
  rcases h with ⟨l, h1, h2, h3⟩ | ⟨h1, h2⟩
  · exact Or.inl ⟨l, h1, fun c => (h2 c).trans (k c), h3⟩
  · exact Or.inr ⟨h1, h2.mono (fun c hc => (k c).mp hc)⟩
theorem Cnt.none {A : List Int32 → Prop} (h : ∀ c, ¬ A c) : Cnt A 0 :=
  Or.inl ⟨[], List.nodup_nil, fun c => ⟨fun hc => by simp at hc, fun hc => absurd hc (h c)⟩, by simp⟩
theorem Cnt.one (d : List Int32) : Cnt (fun c => c = d) 1 :=
  Or.inl ⟨[d], by simp, fun c => by simp, by simp⟩
theorem Cnt.le {A : List Int32 → Prop} {n : Nat} (h : Cnt A n) : n ≤ 1000002 := by
  rcases h with ⟨l, h1, h2, h3⟩ | ⟨h1, h2⟩ <;> omega
theorem Cnt.zero {A : List Int32 → Prop} {n : Nat} (h : Cnt A n) : n = 0 ↔ ∀ c, ¬ A c := by
  constructor
  · intro e c hc
    rcases h with ⟨l, h1, h2, h3⟩ | ⟨h1, h2⟩
    · have := List.length_pos_of_mem ((h2 c).mpr hc)
      omega
    · omega
  · intro hn
    exact h.uniq (Cnt.none hn)
theorem Cnt.two {A : List Int32 → Prop} {n : Nat} (h : Cnt A n) : 1 < n ↔ ∃ a b, A a ∧ A b ∧ a ≠ b := by
  constructor
  · intro hn
    have aux : ∀ l : List (List Int32), l.Nodup → 1 < l.length → (∀ c, c ∈ l → A c) → ∃ a b, A a ∧ A b ∧ a ≠ b := by
      intro l h1 h2 h3
      match l, h1, h2, h3 with
      | x :: y :: _, h1, _, h3 =>
        refine ⟨x, y, h3 x (by simp), h3 y (by simp), ?_⟩
        rw [List.nodup_cons] at h1
        exact fun e => h1.1 (by simp [e])
      | [], _, h2, _ => simp at h2
      | [_], _, h2, _ => simp at h2
    rcases h with ⟨l, h1, h2, h3⟩ | ⟨h1, h2⟩
    · exact aux l h1 (by omega) (fun c hc => (h2 c).mp hc)
    · obtain ⟨l, k1, k2, k3⟩ := h2 2
      exact aux l k1 (by omega) k3
  · rintro ⟨a, b, ha, hb, hn⟩
    rcases h with ⟨l, h1, h2, h3⟩ | ⟨h1, h2⟩
    · have : [a, b].length ≤ l.length := nd_sub (by simp [hn]) (fun c hc => by
        simp only [List.mem_cons, List.not_mem_nil, or_false] at hc
        rcases hc with rfl | rfl
        · exact (h2 _).mpr ha
        · exact (h2 _).mpr hb)
      simp at this
      omega
    · omega
theorem Cnt.union {A B : List Int32 → Prop} {a b : Nat} (h : Cnt A a) (k : Cnt B b) (d : ∀ c, A c → ¬ B c) : Cnt (fun c => A c ∨ B c) (wplus a b) := by
  unfold wplus
  rcases h with ⟨l, h1, h2, h3⟩ | ⟨h1, h2⟩
  · rcases k with ⟨m, k1, k2, k3⟩ | ⟨k1, k2⟩
    · rw [if_neg (by omega)]
      refine Or.inl ⟨l ++ m, ?_, ?_, ?_⟩
      · rw [List.nodup_append]
        refine ⟨h1, k1, fun x hx y hy e => ?_⟩
        subst e
        exact d x ((h2 x).mp hx) ((k2 x).mp hy)
      · intro c
        rw [List.mem_append, h2, k2]
      · rw [List.length_append]
        omega
    · rw [if_pos (Or.inr k1)]
      exact Cnt.inf (k2.mono (fun c hc => Or.inr hc))
  · rw [if_pos (Or.inl h1)]
    exact Cnt.inf (h2.mono (fun c hc => Or.inl hc))
theorem nd_map {α β : Type} (f : α → β) : ∀ {l : List α}, l.Nodup → (∀ x y, x ∈ l → y ∈ l → f x = f y → x = y) → (l.map f).Nodup
  | [], _, _ => by simp
  | x :: xs, h, k => by
    rw [List.nodup_cons] at h
    rw [List.map_cons, List.nodup_cons]
    refine ⟨fun hx => ?_, nd_map f h.2 (fun a b ha hb => k a b (List.mem_cons_of_mem _ ha) (List.mem_cons_of_mem _ hb))⟩
    obtain ⟨y, hy, e⟩ := List.mem_map.mp hx
    have := k y x (List.mem_cons_of_mem _ hy) List.mem_cons_self e
    exact h.1 (this ▸ hy)
theorem Cnt.cons {A : List Int32 → Prop} {n : Nat} (h : Cnt A n) (x : Int32) : Cnt (fun c => ∃ d, A d ∧ c = x :: d) n := by
  have inj : ∀ (l : List (List Int32)) (a b : List Int32), a ∈ l → b ∈ l → x :: a = x :: b → a = b := by
    intro l a b _ _ e
    injection e
  rcases h with ⟨l, h1, h2, h3⟩ | ⟨h1, h2⟩
  · refine Or.inl ⟨l.map (fun d => x :: d), nd_map _ h1 (inj l), ?_, by simpa using h3⟩
    intro c
    rw [List.mem_map]
    constructor
    · rintro ⟨d, hd, rfl⟩
      exact ⟨d, (h2 d).mp hd, rfl⟩
    · rintro ⟨d, hd, rfl⟩
      exact ⟨d, (h2 d).mpr hd, rfl⟩
  · refine Or.inr ⟨h1, fun k => ?_⟩
    obtain ⟨l, k1, k2, k3⟩ := h2 k
    refine ⟨l.map (fun d => x :: d), nd_map _ k1 (inj l), by simpa using k2, ?_⟩
    intro c hc
    obtain ⟨d, hd, rfl⟩ := List.mem_map.mp hc
    exact ⟨d, k3 d hd, rfl⟩
/-- rows that go on with another row, told apart -/
def catc (A B : List Int32 → Prop) : List Int32 → Prop := fun c => ∃ x y, A x ∧ B y ∧ c = x ++ y
theorem nd_prod {A B : List Int32 → Prop} (inj : ∀ x x' y y', A x → A x' → B y → B y' → x ++ y = x' ++ y' → x = x' ∧ y = y') {m : List (List Int32)} (hm : m.Nodup) (hB : ∀ c, c ∈ m → B c) : ∀ {l : List (List Int32)}, l.Nodup → (∀ c, c ∈ l → A c) → (l.flatMap (fun x => m.map (fun y => x ++ y))).Nodup ∧ (l.flatMap (fun x => m.map (fun y => x ++ y))).length = l.length * m.length
  | [], _, _ => by simp
  | x :: xs, h, hA => by
    rw [List.nodup_cons] at h
    obtain ⟨i1, i2⟩ := nd_prod inj hm hB h.2 (fun c hc => hA c (List.mem_cons_of_mem _ hc))
    rw [List.flatMap_cons]
    refine ⟨?_, ?_⟩
    · rw [List.nodup_append]
      refine ⟨nd_map _ hm (fun a b _ _ e => List.append_cancel_left e), i1, ?_⟩
      intro a ha b hb e
      obtain ⟨y, hy, rfl⟩ := List.mem_map.mp ha
      obtain ⟨x', hx', hb2⟩ := List.mem_flatMap.mp hb
      obtain ⟨y', hy', rfl⟩ := List.mem_map.mp hb2
      have := (inj x x' y y' (hA x List.mem_cons_self) (hA x' (List.mem_cons_of_mem _ hx')) (hB y hy) (hB y' hy') e).1
      exact h.1 (this ▸ hx')
    · rw [List.length_append, i2, List.length_map, List.length_cons, Nat.succ_mul]
      omega
theorem Cnt.prod {A B : List Int32 → Prop} {a b : Nat} (h : Cnt A a) (k : Cnt B b) (inj : ∀ x x' y y', A x → A x' → B y → B y' → x ++ y = x' ++ y' → x = x' ∧ y = y') : Cnt (catc A B) (wtimes a b) := by
  unfold wtimes
  by_cases z : a = 0 ∨ b = 0
  · rw [if_pos z]
    refine Cnt.none ?_
    rintro c ⟨x, y, hx, hy, _⟩
    rcases z with z | z
    · exact h.zero.mp z x hx
    · exact k.zero.mp z y hy
  · rw [if_neg z]
    have exA : ∃ x, A x := by
      apply Classical.byContradiction
      intro hn
      exact z (Or.inl (h.zero.mpr (fun c hc => hn ⟨c, hc⟩)))
    have exB : ∃ x, B x := by
      apply Classical.byContradiction
      intro hn
      exact z (Or.inr (k.zero.mpr (fun c hc => hn ⟨c, hc⟩)))
    rcases h with ⟨l, h1, h2, h3⟩ | ⟨h1, h2⟩
    · rcases k with ⟨m, k1, k2, k3⟩ | ⟨k1, k2⟩
      · rw [if_neg (by omega)]
        obtain ⟨i1, i2⟩ := nd_prod inj k1 (fun c hc => (k2 c).mp hc) h1 (fun c hc => (h2 c).mp hc)
        refine Or.inl ⟨_, i1, ?_, ?_⟩
        · intro c
          rw [List.mem_flatMap]
          constructor
          · rintro ⟨x, hx, hc⟩
            obtain ⟨y, hy, rfl⟩ := List.mem_map.mp hc
            exact ⟨x, y, (h2 x).mp hx, (k2 y).mp hy, rfl⟩
          · rintro ⟨x, y, hx, hy, rfl⟩
            exact ⟨x, (h2 x).mpr hx, List.mem_map.mpr ⟨y, (k2 y).mpr hy, rfl⟩⟩
        · rw [i2, h3, k3]
          by_cases c1 : l.length ≤ 1000001
          · by_cases c2 : m.length ≤ 1000001
            · rw [Nat.min_eq_left c1, Nat.min_eq_left c2]
            · have : 1 ≤ l.length := by omega
              rw [Nat.min_eq_left c1, Nat.min_eq_right (by omega : 1000001 ≤ m.length)]
              have e1 : 1000001 ≤ l.length * 1000001 := Nat.le_mul_of_pos_left _ (by omega)
              have e2 : m.length ≤ l.length * m.length := Nat.le_mul_of_pos_left _ (by omega)
              omega
          · rw [Nat.min_eq_right (by omega : 1000001 ≤ l.length)]
            have e0 : 1 ≤ min m.length 1000001 := by omega
            have e1 : 1000001 ≤ 1000001 * min m.length 1000001 := Nat.le_mul_of_pos_right _ e0
            have e2 : l.length ≤ l.length * m.length := Nat.le_mul_of_pos_right _ (by omega)
            omega
      · rw [if_pos (Or.inr k1)]
        refine Cnt.inf (fun n => ?_)
        obtain ⟨m, m1, m2, m3⟩ := k2 n
        obtain ⟨x, hx⟩ := exA
        refine ⟨m.map (fun y => x ++ y), nd_map _ m1 (fun a b _ _ e => List.append_cancel_left e), by simpa using m2, ?_⟩
        intro c hc
        obtain ⟨y, hy, rfl⟩ := List.mem_map.mp hc
        exact ⟨x, y, hx, m3 y hy, rfl⟩
    · rw [if_pos (Or.inl h1)]
      refine Cnt.inf (fun n => ?_)
      obtain ⟨m, m1, m2, m3⟩ := h2 n
      obtain ⟨y, hy⟩ := exB
      refine ⟨m.map (fun x => x ++ y), nd_map _ m1 (fun a b _ _ e => List.append_cancel_right e), by simpa using m2, ?_⟩
      intro c hc
      obtain ⟨x, hx, rfl⟩ := List.mem_map.mp hc
      exact ⟨x, y, m3 x hx, hy, rfl⟩
theorem wplus_le (a b : Nat) : wplus a b ≤ 1000002 := by
  unfold wplus
  by_cases c : a = 1000002 ∨ b = 1000002
  · rw [if_pos c]; omega
  · rw [if_neg c]; omega
theorem wtimes_le (a b : Nat) : wtimes a b ≤ 1000002 := by
  unfold wtimes
  by_cases z : a = 0 ∨ b = 0
  · rw [if_pos z]; omega
  · rw [if_neg z]
    by_cases c : a = 1000002 ∨ b = 1000002
    · rw [if_pos c]; omega
    · rw [if_neg c]; omega
