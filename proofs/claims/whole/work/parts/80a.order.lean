/-! Theory: rows of codes by size, then by the first code that differs -/
def lx : List Int32 → List Int32 → Prop
  | x :: xs, y :: ys => x < y ∨ (x = y ∧ lx xs ys)
  | _, _ => False
def cl (a b : List Int32) : Prop := a.length < b.length ∨ (a.length = b.length ∧ lx a b)
theorem lx_irr : ∀ a, ¬ lx a a
  | [] => fun h => h
  | x :: xs => by
    intro h
    rcases h with h | ⟨_, h⟩
    · exact Int32.lt_irrefl h
    · exact lx_irr xs h
theorem lx_trans : ∀ {a b c : List Int32}, lx a b → lx b c → lx a c
  | [], _, _, h, _ => h.elim
  | _ :: _, [], _, h, _ => h.elim
  | _ :: _, _ :: _, [], _, h => h.elim
  | x :: xs, y :: ys, z :: zs, h, k => by
    rcases h with h | ⟨rfl, h⟩
    · rcases k with k | ⟨rfl, k⟩
      · exact Or.inl (Int32.lt_trans h k)
      · exact Or.inl h
    · rcases k with k | ⟨rfl, k⟩
      · exact Or.inl k
      · exact Or.inr ⟨rfl, lx_trans h k⟩
theorem i32_tri (x y : Int32) : x < y ∨ x = y ∨ y < x := by
  have h1 := Int32.lt_iff_toInt_lt (x := x) (y := y)
  have h2 := Int32.lt_iff_toInt_lt (x := y) (y := x)
  by_cases c : x.toInt = y.toInt
  · exact Or.inr (Or.inl (Int32.toInt_inj.mp c))
  · rcases Int.lt_or_gt_of_ne c with d | d
    · exact Or.inl (h1.mpr d)
    · exact Or.inr (Or.inr (h2.mpr d))
theorem lx_tri : ∀ {a b : List Int32}, a.length = b.length → lx a b ∨ a = b ∨ lx b a
  | [], [], _ => Or.inr (Or.inl rfl)
  | [], _ :: _, h => by simp at h
  | _ :: _, [], h => by simp at h
  | x :: xs, y :: ys, h => by
    rcases i32_tri x y with c | rfl | c
    · exact Or.inl (Or.inl c)
    · rcases lx_tri (a := xs) (b := ys) (by simpa using h) with d | rfl | d
      · exact Or.inl (Or.inr ⟨rfl, d⟩)
      · exact Or.inr (Or.inl rfl)
      · exact Or.inr (Or.inr (Or.inr ⟨rfl, d⟩))
    · exact Or.inr (Or.inr (Or.inl c))
theorem cl_irr (a : List Int32) : ¬ cl a a := by
  rintro (h | ⟨_, h⟩)
  · omega
  · exact lx_irr a h
theorem cl_trans {a b c : List Int32} (h : cl a b) (k : cl b c) : cl a c := by
  rcases h with h | ⟨h1, h2⟩
  · rcases k with k | ⟨k1, k2⟩
    · exact Or.inl (by omega)
    · exact Or.inl (by omega)
  · rcases k with k | ⟨k1, k2⟩
    · exact Or.inl (by omega)
    · exact Or.inr ⟨by omega, lx_trans h2 k2⟩
theorem cl_tri (a b : List Int32) : cl a b ∨ a = b ∨ cl b a := by
  rcases Nat.lt_trichotomy a.length b.length with h | h | h
  · exact Or.inl (Or.inl h)
  · rcases lx_tri h with c | c | c
    · exact Or.inl (Or.inr ⟨h, c⟩)
    · exact Or.inr (Or.inl c)
    · exact Or.inr (Or.inr (Or.inr ⟨h.symm, c⟩))
  · exact Or.inr (Or.inr (Or.inl h))
theorem cl_ne {a b : List Int32} (h : cl a b) : a ≠ b := by
  rintro rfl
  exact cl_irr a h
theorem cl_asym {a b : List Int32} (h : cl a b) : ¬ cl b a := fun k => cl_irr a (cl_trans h k)
theorem cl_len {a b : List Int32} (h : cl a b) : a.length ≤ b.length := by
  rcases h with h | h <;> omega
def cle (a b : List Int32) : Prop := a = b ∨ cl a b
theorem cle_trans {a b c : List Int32} (h : cle a b) (k : cle b c) : cle a c := by
  rcases h with rfl | h
  · exact k
  · rcases k with rfl | k
    · exact Or.inr h
    · exact Or.inr (cl_trans h k)
theorem cle_lt {a b c : List Int32} (h : cle a b) (k : cl b c) : cl a c := by
  rcases h with rfl | h
  · exact k
  · exact cl_trans h k
theorem lt_cle {a b c : List Int32} (h : cl a b) (k : cle b c) : cl a c := by
  rcases k with rfl | k
  · exact h
  · exact cl_trans h k
theorem not_cl {a b : List Int32} (h : ¬ cl a b) : cle b a := by
  rcases cl_tri a b with c | c | c
  · exact absurd c h
  · exact Or.inl c.symm
  · exact Or.inr c
theorem lx_app : ∀ {a a' : List Int32} {b b' : List Int32}, a.length = a'.length → (lx (a ++ b) (a' ++ b') ↔ lx a a' ∨ (a = a' ∧ lx b b'))
  | [], [], b, b', _ => by simp [lx]
  | [], _ :: _, _, _, h => by simp at h
  | _ :: _, [], _, _, h => by simp at h
  | x :: xs, y :: ys, b, b', h => by
    have ih := lx_app (a := xs) (a' := ys) (b := b) (b' := b') (by simpa using h)
    show (x < y ∨ (x = y ∧ lx (xs ++ b) (ys ++ b'))) ↔ ((x < y ∨ (x = y ∧ lx xs ys)) ∨ (x :: xs = y :: ys ∧ lx b b'))
    rw [ih]
    constructor
    · rintro (q | ⟨e, q | ⟨e2, q⟩⟩)
      · exact Or.inl (Or.inl q)
      · exact Or.inl (Or.inr ⟨e, q⟩)
      · exact Or.inr ⟨by rw [e, e2], q⟩
    · rintro ((q | ⟨e, q⟩) | ⟨h1, q⟩)
      · exact Or.inl q
      · exact Or.inr ⟨e, Or.inl q⟩
      · injection h1 with h2 h3
        exact Or.inr ⟨h2, Or.inr ⟨h3, q⟩⟩
theorem cl_app_l {a a' b b' : List Int32} (h : cl a a') (k : cle b b') : cl (a ++ b) (a' ++ b') := by
  have hl : b.length ≤ b'.length := by
    rcases k with rfl | k
    · exact Nat.le_refl _
    · exact cl_len k
  rcases h with h | ⟨h1, h2⟩
  · left
    simp only [List.length_append]
    omega
  · by_cases c : b.length = b'.length
    · right
      refine ⟨by simp only [List.length_append]; omega, (lx_app h1).mpr (Or.inl h2)⟩
    · left
      simp only [List.length_append]
      omega
theorem cl_app_r {a a' b b' : List Int32} (h : cle a a') (k : cl b b') : cl (a ++ b) (a' ++ b') := by
  rcases h with rfl | h
  · rcases k with k | ⟨k1, k2⟩
    · left
      simp only [List.length_append]
      omega
    · right
      exact ⟨by simp only [List.length_append]; omega, (lx_app rfl).mpr (Or.inr ⟨rfl, k2⟩)⟩
  · exact cl_app_l h (Or.inr k)
theorem cle_app {a a' b b' : List Int32} (h : cle a a') (k : cle b b') : cle (a ++ b) (a' ++ b') := by
  rcases h with rfl | h
  · rcases k with rfl | k
    · exact Or.inl rfl
    · exact Or.inr (cl_app_r (Or.inl rfl) k)
  · exact Or.inr (cl_app_l h k)
theorem cl_cons {x : Int32} {a b : List Int32} : cl (x :: a) (x :: b) ↔ cl a b := by
  constructor
  · rintro (h | ⟨h1, h2⟩)
    · exact Or.inl (by simpa using h)
    · rcases h2 with h2 | ⟨_, h2⟩
      · exact absurd h2 Int32.lt_irrefl
      · exact Or.inr ⟨by simpa using h1, h2⟩
  · intro h
    exact cl_app_r (a := [x]) (a' := [x]) (Or.inl rfl) h
theorem cle_cons {x : Int32} {a b : List Int32} (h : cle a b) : cle (x :: a) (x :: b) := by
  rcases h with rfl | h
  · exact Or.inl rfl
  · exact Or.inr (cl_cons.mpr h)
/-! the two least of a set -/
def Two (A : List Int32 → Prop) (p : List (List Int32)) : Prop :=
  p.length ≤ 2 ∧ (∀ c, c ∈ p → A c) ∧ p.Pairwise cl ∧ ∀ e, A e → e ∈ p ∨ (p.length = 2 ∧ ∀ c, c ∈ p → cl c e)
theorem Two.nil {A : List Int32 → Prop} (h : ∀ c, ¬ A c) : Two A [] :=
  ⟨by simp, fun c hc => by simp at hc, List.Pairwise.nil, fun e he => absurd he (h e)⟩
theorem Two.congr {A B : List Int32 → Prop} {p : List (List Int32)} (h : Two A p) (k : ∀ c, A c ↔ B c) : Two B p :=
  ⟨h.1, fun c hc => (k c).mp (h.2.1 c hc), h.2.2.1, fun e he => h.2.2.2 e ((k e).mpr he)⟩
/-- a pair as three shapes -/
theorem Two.shape {A : List Int32 → Prop} {p : List (List Int32)} (h : Two A p) : (p = [] ∧ ∀ c, ¬ A c) ∨ (∃ a, p = [a] ∧ A a ∧ ∀ e, A e → e = a) ∨ (∃ a b, p = [a, b] ∧ A a ∧ A b ∧ cl a b ∧ ∀ e, A e → e = a ∨ e = b ∨ cl b e) := by
  obtain ⟨h1, h2, h3, h4⟩ := h
  match p, h1, h2, h3, h4 with
  | [], _, _, _, h4 =>
    left
    refine ⟨rfl, fun c hc => ?_⟩
    rcases h4 c hc with h | h
    · simp at h
    · simp at h
  | [a], _, h2, _, h4 =>
    right; left
    refine ⟨a, rfl, h2 a (by simp), fun e he => ?_⟩
    rcases h4 e he with h | h
    · simpa using h
    · simp at h
  | [a, b], _, h2, h3, h4 =>
    right; right
    refine ⟨a, b, rfl, h2 a (by simp), h2 b (by simp), ?_, fun e he => ?_⟩
    · simpa using h3
    · rcases h4 e he with h | h
      · simp only [List.mem_cons, List.not_mem_nil, or_false] at h
        rcases h with h | h
        · exact Or.inl h
        · exact Or.inr (Or.inl h)
      · exact Or.inr (Or.inr (h.2 b (by simp)))
  | _ :: _ :: _ :: _, h1, _, _, _ => simp at h1
theorem Two.mk1 {A : List Int32 → Prop} {a : List Int32} (h : A a) (k : ∀ e, A e → e = a) : Two A [a] :=
  ⟨by simp, fun c hc => by simp at hc; rw [hc]; exact h, by simp, fun e he => Or.inl (by simp [k e he])⟩
theorem Two.mk2 {A : List Int32 → Prop} {a b : List Int32} (h : A a) (h' : A b) (l : cl a b) (k : ∀ e, A e → e = a ∨ e = b ∨ cl b e) : Two A [a, b] := by
  refine ⟨by simp, fun c hc => ?_, by simpa using l, fun e he => ?_⟩
  · simp only [List.mem_cons, List.not_mem_nil, or_false] at hc
    rcases hc with rfl | rfl
    · exact h
    · exact h'
  · rcases k e he with r | r | r
    · exact Or.inl (by simp [r])
    · exact Or.inl (by simp [r])
    · refine Or.inr ⟨rfl, fun c hc => ?_⟩
      simp only [List.mem_cons, List.not_mem_nil, or_false] at hc
      rcases hc with rfl | rfl
      · exact cl_trans l r
      · exact r
theorem Two.uniq {A : List Int32 → Prop} {p q : List (List Int32)} (h : Two A p) (k : Two A q) : p = q := by
  rcases h.shape with ⟨rfl, hh⟩ | ⟨a, rfl, h1, h2⟩ | ⟨a, b, rfl, h1, h2, h3, h4⟩
  · rcases k.shape with ⟨rfl, kk⟩ | ⟨c, rfl, k1, k2⟩ | ⟨c, d, rfl, k1, k2, k3, k4⟩
    · rfl
    · exact absurd k1 (hh c)
    · exact absurd k1 (hh c)
  · rcases k.shape with ⟨rfl, kk⟩ | ⟨c, rfl, k1, k2⟩ | ⟨c, d, rfl, k1, k2, k3, k4⟩
    · exact absurd h1 (kk a)
    · rw [k2 a h1]
    · rw [h2 c k1, h2 d k2] at k3
      exact absurd k3 (cl_irr a)
  · rcases k.shape with ⟨rfl, kk⟩ | ⟨c, rfl, k1, k2⟩ | ⟨c, d, rfl, k1, k2, k3, k4⟩
    · exact absurd h1 (kk a)
    · rw [k2 a h1, k2 b h2] at h3
      exact absurd h3 (cl_irr c)
    · have e1 : a = c := by
        rcases h4 c k1 with r | r | r
        · exact r.symm
        · rcases k4 a h1 with s | s | s
          · exact s
          · subst s; subst r; exact absurd k3 (cl_asym h3)
          · subst r; exact absurd (cl_trans k3 s) (cl_asym h3)
        · rcases k4 a h1 with s | s | s
          · exact s
          · subst s; exact absurd (cl_trans k3 h3) (cl_asym r)
          · exact absurd (cl_trans (cl_trans h3 r) k3) (cl_asym s)
      subst e1
      have e2 : b = d := by
        rcases h4 d k2 with r | r | r
        · subst r; exact absurd k3 (cl_irr d)
        · exact r.symm
        · rcases k4 b h2 with s | s | s
          · subst s; exact absurd h3 (cl_irr b)
          · exact s
          · exact absurd r (cl_asym s)
      rw [e2]
def addc (A : List Int32 → Prop) (d : List Int32) : List Int32 → Prop := fun c => A c ∨ c = d
theorem Two.ins0 {A : List Int32 → Prop} (h : Two A []) (d : List Int32) : Two (addc A d) [d] := by
  rcases h.shape with ⟨_, h⟩ | ⟨a, e, _⟩ | ⟨a, b, e, _⟩
  · exact Two.mk1 (Or.inr rfl) (fun e he => he.resolve_left (h e))
  · simp at e
  · simp at e
theorem Two.ins1a {A : List Int32 → Prop} {a d : List Int32} (h : Two A [a]) (k : cl d a) : Two (addc A d) [d, a] := by
  rcases h.shape with ⟨e, _⟩ | ⟨x, e, h1, h2⟩ | ⟨x, y, e, _⟩
  · simp at e
  · simp only [List.cons.injEq, and_true] at e
    subst e
    refine Two.mk2 (Or.inr rfl) (Or.inl h1) k (fun e he => ?_)
    rcases he with he | he
    · exact Or.inr (Or.inl (h2 e he))
    · exact Or.inl he
  · simp at e
theorem Two.ins1b {A : List Int32 → Prop} {a d : List Int32} (h : Two A [a]) (k : cl a d) : Two (addc A d) [a, d] := by
  rcases h.shape with ⟨e, _⟩ | ⟨x, e, h1, h2⟩ | ⟨x, y, e, _⟩
  · simp at e
  · simp only [List.cons.injEq, and_true] at e
    subst e
    refine Two.mk2 (Or.inl h1) (Or.inr rfl) k (fun e he => ?_)
    rcases he with he | he
    · exact Or.inl (h2 e he)
    · exact Or.inr (Or.inl he)
  · simp at e
theorem Two.inv2 {A : List Int32 → Prop} {a b : List Int32} (h : Two A [a, b]) : A a ∧ A b ∧ cl a b ∧ ∀ e, A e → e = a ∨ e = b ∨ cl b e := by
  rcases h.shape with ⟨e, _⟩ | ⟨x, e, h1, h2⟩ | ⟨x, y, e, h1, h2, h3, h4⟩
  · simp at e
  · simp at e
  · simp only [List.cons.injEq, and_true] at e
    obtain ⟨rfl, rfl⟩ := e
    exact ⟨h1, h2, h3, h4⟩
theorem Two.inv1 {A : List Int32 → Prop} {a : List Int32} (h : Two A [a]) : A a ∧ ∀ e, A e → e = a := by
  rcases h.shape with ⟨e, _⟩ | ⟨x, e, h1, h2⟩ | ⟨x, y, e, h1, h2, h3, h4⟩
  · simp at e
  · simp only [List.cons.injEq, and_true] at e
    subst e
    exact ⟨h1, h2⟩
  · simp at e
theorem Two.inv0 {A : List Int32 → Prop} (h : Two A []) : ∀ e, ¬ A e := by
  rcases h.shape with ⟨_, h⟩ | ⟨x, e, h1, h2⟩ | ⟨x, y, e, h1, h2, h3, h4⟩
  · exact h
  · simp at e
  · simp at e
theorem Two.ins2a {A : List Int32 → Prop} {a b d : List Int32} (h : Two A [a, b]) (k : cl d a) : Two (addc A d) [d, a] := by
  obtain ⟨h1, h2, h3, h4⟩ := h.inv2
  refine Two.mk2 (Or.inr rfl) (Or.inl h1) k (fun e he => ?_)
  rcases he with he | he
  · rcases h4 e he with r | r | r
    · exact Or.inr (Or.inl r)
    · subst r; exact Or.inr (Or.inr h3)
    · exact Or.inr (Or.inr (cl_trans h3 r))
  · exact Or.inl he
theorem Two.ins2b {A : List Int32 → Prop} {a b d : List Int32} (h : Two A [a, b]) (k : cl a d) (k2 : cl d b) : Two (addc A d) [a, d] := by
  obtain ⟨h1, h2, h3, h4⟩ := h.inv2
  refine Two.mk2 (Or.inl h1) (Or.inr rfl) k (fun e he => ?_)
  rcases he with he | he
  · rcases h4 e he with r | r | r
    · exact Or.inl r
    · subst r; exact Or.inr (Or.inr k2)
    · exact Or.inr (Or.inr (cl_trans k2 r))
  · exact Or.inr (Or.inl he)
theorem Two.ins2c {A : List Int32 → Prop} {a b d : List Int32} (h : Two A [a, b]) (k : cle b d) : Two (addc A d) [a, b] := by
  obtain ⟨h1, h2, h3, h4⟩ := h.inv2
  refine Two.mk2 (Or.inl h1) (Or.inl h2) h3 (fun e he => ?_)
  rcases he with he | he
  · exact h4 e he
  · subst he
    rcases k with k | k
    · exact Or.inr (Or.inl k.symm)
    · exact Or.inr (Or.inr k)
/-- an element that is there already changes nothing -/
theorem Two.insEq {A : List Int32 → Prop} {p : List (List Int32)} {d : List Int32} (h : Two A p) (k : A d) : Two (addc A d) p :=
  h.congr (fun c => ⟨fun x => Or.inl x, fun x => x.elim id (fun e => e ▸ k)⟩)
/-- a larger set whose new elements have two below them -/
theorem Two.ext {A B : List Int32 → Prop} {p : List (List Int32)} (h : Two A p) (s : ∀ c, A c → B c) (k : ∀ e, B e → A e ∨ ∃ a b, A a ∧ A b ∧ a ≠ b ∧ cl a e ∧ cl b e) : Two B p := by
  refine ⟨h.1, fun c hc => s c (h.2.1 c hc), h.2.2.1, fun e he => ?_⟩
  rcases k e he with ha | ⟨a, b, ha, hb, hn, la, lb⟩
  · exact h.2.2.2 e ha
  · rcases h.shape with ⟨_, hh⟩ | ⟨x, rfl, h1, h2⟩ | ⟨x, y, rfl, h1, h2, h3, h4⟩
    · exact absurd ha (hh a)
    · exact absurd ((h2 a ha).trans (h2 b hb).symm) hn
    · right
      refine ⟨rfl, ?_⟩
      have hy : cl y e := by
        rcases h4 a ha with r | r | r
        · rcases h4 b hb with q | q | q
          · exact absurd (r.trans q.symm) hn
          · exact q ▸ lb
          · exact cl_trans q lb
        · exact r ▸ la
        · exact cl_trans r la
      intro c hc
      simp only [List.mem_cons, List.not_mem_nil, or_false] at hc
      rcases hc with rfl | rfl
      · exact cl_trans h3 hy
      · exact hy
