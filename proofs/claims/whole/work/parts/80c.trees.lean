/-! grammars and trees: sorts, variables, rules; sort of a variable, of a rule; a rule's symbols -/
abbrev Gm : Type := (Nat × Nat × Nat) × (Nat → Nat) × (Nat → Nat) × (Nat → List Int32)
def gS (G : Gm) : Nat := G.1.1
def gV (G : Gm) : Nat := G.1.2.1
def gR (G : Gm) : Nat := G.1.2.2
def gvs (G : Gm) : Nat → Nat := G.2.1
def grs (G : Gm) : Nat → Nat := G.2.2.1
def gry (G : Gm) : Nat → List Int32 := G.2.2.2
def vI (x : Int32) : Nat := (-1 - x).toNatClampNeg
def sX (G : Gm) (x : Int32) : Nat := gvs G (vI x)
theorem vI_vS {v : Nat} (h : v < 2 ^ 30) : vI (vS v) = v := by
  unfold vI
  rw [vS_back h, nI_clamp (by omega)]
/-- variables in the order in which they come first, behind those that came before -/
def dvs : List Int32 → List Int32 → List Int32
  | acc, [] => acc
  | acc, x :: xs => if x < 0 ∧ x ∉ acc then dvs (acc ++ [x]) xs else dvs acc xs
def dv (l : List Int32) : List Int32 := dvs [] l
theorem dvs_pre : ∀ (l acc : List Int32), ∃ t, dvs acc l = acc ++ t
  | [], acc => ⟨[], by simp [dvs]⟩
  | x :: xs, acc => by
    unfold dvs
    by_cases c : x < 0 ∧ x ∉ acc
    · rw [if_pos c]
      obtain ⟨t, ht⟩ := dvs_pre xs (acc ++ [x])
      exact ⟨x :: t, by rw [ht]; simp⟩
    · rw [if_neg c]
      exact dvs_pre xs acc
theorem dvs_app : ∀ (a b acc : List Int32), dvs acc (a ++ b) = dvs (dvs acc a) b
  | [], b, acc => by simp [dvs]
  | x :: xs, b, acc => by
    show (if x < 0 ∧ x ∉ acc then dvs (acc ++ [x]) (xs ++ b) else dvs acc (xs ++ b)) = _
    rw [show dvs acc (x :: xs) = if x < 0 ∧ x ∉ acc then dvs (acc ++ [x]) xs else dvs acc xs from rfl]
    by_cases c : x < 0 ∧ x ∉ acc
    · rw [if_pos c, if_pos c]
      exact dvs_app xs b (acc ++ [x])
    · rw [if_neg c, if_neg c]
      exact dvs_app xs b acc
theorem dvs_mem : ∀ (l acc : List Int32) (z : Int32), z ∈ dvs acc l ↔ z ∈ acc ∨ (z ∈ l ∧ z < 0)
  | [], acc, z => by simp [dvs]
  | x :: xs, acc, z => by
    unfold dvs
    by_cases c : x < 0 ∧ x ∉ acc
    · rw [if_pos c, dvs_mem xs (acc ++ [x]) z]
      simp only [List.mem_append, List.mem_cons, List.not_mem_nil, or_false]
      constructor
      · rintro ((h | h) | h)
        · exact Or.inl h
        · exact Or.inr ⟨Or.inl h, h ▸ c.1⟩
        · exact Or.inr ⟨Or.inr h.1, h.2⟩
      · rintro (h | ⟨h | h, k⟩)
        · exact Or.inl (Or.inl h)
        · exact Or.inl (Or.inr h)
        · exact Or.inr ⟨h, k⟩
    · rw [if_neg c, dvs_mem xs acc z]
      simp only [List.mem_cons]
      constructor
      · rintro (h | h)
        · exact Or.inl h
        · exact Or.inr ⟨Or.inr h.1, h.2⟩
      · rintro (h | ⟨h | h, k⟩)
        · exact Or.inl h
        · subst h
          left
          apply Classical.byContradiction
          exact fun q => c ⟨k, q⟩
        · exact Or.inr ⟨h, k⟩
theorem dvs_nd : ∀ (l acc : List Int32), acc.Nodup → (dvs acc l).Nodup
  | [], acc, h => h
  | x :: xs, acc, h => by
    unfold dvs
    by_cases c : x < 0 ∧ x ∉ acc
    · rw [if_pos c]
      refine dvs_nd xs _ ?_
      rw [List.nodup_append]
      refine ⟨h, by simp, ?_⟩
      intro a ha b hb e
      simp only [List.mem_cons, List.not_mem_nil, or_false] at hb
      exact c.2 (hb ▸ e ▸ ha)
    · rw [if_neg c]
      exact dvs_nd xs acc h
theorem dvs_len : ∀ (l acc : List Int32), (dvs acc l).length ≤ acc.length + (l.filter (fun x => decide (x < 0))).length
  | [], acc => by simp [dvs]
  | x :: xs, acc => by
    unfold dvs
    by_cases c : x < 0 ∧ x ∉ acc
    · rw [if_pos c]
      have := dvs_len xs (acc ++ [x])
      rw [List.filter_cons_of_pos (by simpa using c.1)]
      simp only [List.length_append, List.length_cons, List.length_nil] at this ⊢
      omega
    · rw [if_neg c]
      have := dvs_len xs acc
      by_cases d : x < 0
      · rw [List.filter_cons_of_pos (by simpa using d)]
        simp only [List.length_cons]
        omega
      · rw [List.filter_cons_of_neg (by simpa using d)]
        exact this
theorem dv_mem {l : List Int32} {z : Int32} : z ∈ dv l ↔ z ∈ l ∧ z < 0 := by
  unfold dv
  rw [dvs_mem]
  simp
theorem dv_nd (l : List Int32) : (dv l).Nodup := dvs_nd l [] (by simp)
theorem fm_congr {l : List Int32} {f g : Int32 → List Int32} (h : ∀ x, x ∈ l → f x = g x) : l.flatMap f = l.flatMap g := by
  induction l with
  | nil => rfl
  | cons x xs ih => rw [List.flatMap_cons, List.flatMap_cons, h x List.mem_cons_self, ih (fun z hz => h z (List.mem_cons_of_mem _ hz))]
/-- symbols replaced -/
def sub (g : Int32 → List Int32) (x : Int32) : List Int32 := if x < 0 then g x else [x]
def asg : List Int32 → List (List Int32) → Int32 → List Int32
  | x :: xs, g :: gs, z => if z = x then g else asg xs gs z
  | _, _, _ => []
theorem asg_map (g : Int32 → List Int32) : ∀ (l : List Int32) (z : Int32), z ∈ l → asg l (l.map g) z = g z
  | [], z, h => by simp at h
  | x :: xs, z, h => by
    show (if z = x then g x else asg xs (xs.map g) z) = g z
    by_cases c : z = x
    · rw [if_pos c, c]
    · rw [if_neg c]
      exact asg_map g xs z (by simpa [c] using h)
theorem map_asg : ∀ (l : List Int32) (gs : List (List Int32)), l.Nodup → gs.length = l.length → l.map (asg l gs) = gs
  | [], [], _, _ => rfl
  | [], _ :: _, _, h => by simp at h
  | _ :: _, [], _, h => by simp at h
  | x :: xs, g :: gs, n, h => by
    rw [List.nodup_cons] at n
    rw [List.map_cons]
    have e1 : asg (x :: xs) (g :: gs) x = g := by show (if x = x then g else _) = g; rw [if_pos rfl]
    rw [e1]
    congr 1
    have e2 : xs.map (asg (x :: xs) (g :: gs)) = xs.map (asg xs gs) := by
      apply List.map_congr_left
      intro z hz
      show (if z = x then g else asg xs gs z) = _
      rw [if_neg (fun e : z = x => n.1 (e ▸ hz))]
    rw [e2]
    exact map_asg xs gs n.2 (by simpa using h)
theorem sub_congr {g g' : Int32 → List Int32} {l : List Int32} (h : ∀ x, x ∈ dv l → g x = g' x) : l.flatMap (sub g) = l.flatMap (sub g') := by
  apply fm_congr
  intro x hx
  unfold sub
  by_cases c : x < 0
  · rw [if_pos c, if_pos c]
    exact h x (dv_mem.mpr ⟨hx, c⟩)
  · rw [if_neg c, if_neg c]
/-- trees as rows of codes: T G n s c y: c is a tree of sort s for the symbols y, of height at most n -/
def T (G : Gm) : Nat → Nat → List Int32 → List Int32 → Prop
  | 0, _, _, _ => False
  | n + 1, s, c, y => (∃ x : Int32, x < 0 ∧ c = [x] ∧ y = [x] ∧ sX G x = s) ∨ ∃ r, r < gR G ∧ grs G r = s ∧ ∃ f g : Int32 → List Int32, c = nI r :: (dv (gry G r)).flatMap f ∧ y = (gry G r).flatMap (sub g) ∧ ∀ x, x ∈ dv (gry G r) → T G n (sX G x) (f x) (g x)
theorem T_up {G : Gm} : ∀ {n : Nat} {s : Nat} {c y : List Int32}, T G n s c y → T G (n + 1) s c y
  | 0, _, _, _, h => h.elim
  | n + 1, s, c, y, h => by
    rcases h with h | ⟨r, h1, h2, f, g, h3, h4, h5⟩
    · exact Or.inl h
    · exact Or.inr ⟨r, h1, h2, f, g, h3, h4, fun x hx => T_up (h5 x hx)⟩
theorem T_ge {G : Gm} {n m s : Nat} {c y : List Int32} (h : T G n s c y) (k : n ≤ m) : T G m s c y := by
  induction k with
  | refl => exact h
  | step _ ih => exact T_up ih
def Sy (G : Gm) (s : Nat) (y c : List Int32) : Prop := ∃ n, T G n s c y
theorem T_list {G : Gm} {f g : Int32 → List Int32} : ∀ (l : List Int32), (∀ x, x ∈ l → Sy G (sX G x) (g x) (f x)) → ∃ n, ∀ x, x ∈ l → T G n (sX G x) (f x) (g x)
  | [], _ => ⟨0, fun x hx => by simp at hx⟩
  | z :: zs, h => by
    obtain ⟨n, hn⟩ := T_list zs (fun x hx => h x (List.mem_cons_of_mem _ hx))
    obtain ⟨m, hm⟩ := h z List.mem_cons_self
    refine ⟨max n m, fun x hx => ?_⟩
    rcases List.mem_cons.mp hx with rfl | hx
    · exact T_ge hm (by omega)
    · exact T_ge (hn x hx) (by omega)
/-- a code tells one tree: rows of codes that are trees, told apart in a longer row -/
theorem T_pre {G : Gm} (hR : gR G ≤ 30) : ∀ {n m : Nat} {s s' : Nat} {c c' y y' a b : List Int32}, T G n s c y → T G m s' c' y' → c ++ a = c' ++ b → c = c' ∧ y = y' ∧ s = s' ∧ a = b
  | 0, _, _, _, _, _, _, _, _, _, h, _, _ => h.elim
  | _ + 1, 0, _, _, _, _, _, _, _, _, _, h, _ => h.elim
  | n + 1, m + 1, s, s', c, c', y, y', a, b, h, k, e => by
    rcases h with ⟨x, h1, rfl, rfl, rfl⟩ | ⟨r, h1, rfl, f, g, rfl, rfl, h5⟩
    · rcases k with ⟨z, k1, rfl, rfl, rfl⟩ | ⟨q, k1, rfl, f', g', rfl, rfl, k5⟩
      · simp only [List.cons_append, List.nil_append, List.cons.injEq] at e
        obtain ⟨rfl, rfl⟩ := e
        exact ⟨rfl, rfl, rfl, rfl⟩
      · simp only [List.cons_append, List.nil_append, List.cons.injEq] at e
        rw [e.1] at h1
        exact absurd h1 (nI_pos (by omega))
    · rcases k with ⟨z, k1, rfl, rfl, rfl⟩ | ⟨q, k1, rfl, f', g', rfl, rfl, k5⟩
      · simp only [List.cons_append, List.nil_append, List.cons.injEq] at e
        rw [← e.1] at k1
        exact absurd k1 (nI_pos (by omega))
      · simp only [List.cons_append, List.cons.injEq] at e
        obtain ⟨e1, e2⟩ := e
        have e3 : r = q := nI_inj (by omega) (by omega) e1
        subst e3
        have key : ∀ (l : List Int32), (∀ x, x ∈ l → T G n (sX G x) (f x) (g x)) → (∀ x, x ∈ l → T G m (sX G x) (f' x) (g' x)) → l.flatMap f ++ a = l.flatMap f' ++ b → (∀ x, x ∈ l → f x = f' x ∧ g x = g' x) ∧ a = b := by
          intro l
          induction l with
          | nil =>
            intro _ _ e
            exact ⟨fun x hx => by simp at hx, by simpa using e⟩
          | cons z zs ih =>
            intro p1 p2 e
            rw [List.flatMap_cons, List.flatMap_cons, List.append_assoc, List.append_assoc] at e
            obtain ⟨q1, q2, _, q3⟩ := T_pre hR (p1 z List.mem_cons_self) (p2 z List.mem_cons_self) e
            obtain ⟨i1, i2⟩ := ih (fun x hx => p1 x (List.mem_cons_of_mem _ hx)) (fun x hx => p2 x (List.mem_cons_of_mem _ hx)) q3
            refine ⟨fun x hx => ?_, i2⟩
            rcases List.mem_cons.mp hx with rfl | hx
            · exact ⟨q1, q2⟩
            · exact i1 x hx
        obtain ⟨k1', k2'⟩ := key _ h5 k5 e2
        refine ⟨?_, sub_congr (fun x hx => (k1' x hx).2), rfl, k2'⟩
        congr 1
        exact fm_congr (fun x hx => (k1' x hx).1)
theorem Sy_pre {G : Gm} (hR : gR G ≤ 30) {s s' : Nat} {c c' y y' a b : List Int32} (h : Sy G s y c) (k : Sy G s' y' c') (e : c ++ a = c' ++ b) : c = c' ∧ y = y' ∧ s = s' ∧ a = b := by
  obtain ⟨n, hn⟩ := h
  obtain ⟨m, hm⟩ := k
  exact T_pre hR hn hm e
/-- rows of codes that are a tree for each of these segments, one behind the other -/
def Pr (G : Gm) : List Int32 → List (List Int32) → List Int32 → Prop
  | [], [], c => c = []
  | x :: xs, g :: gs, c => catc (Sy G (sX G x) g) (Pr G xs gs) c
  | _, _, _ => False
theorem Pr_of {G : Gm} {f g : Int32 → List Int32} : ∀ (l : List Int32), (∀ x, x ∈ l → Sy G (sX G x) (g x) (f x)) → Pr G l (l.map g) (l.flatMap f)
  | [], _ => rfl
  | x :: xs, h => by
    refine ⟨f x, xs.flatMap f, h x List.mem_cons_self, Pr_of xs (fun z hz => h z (List.mem_cons_of_mem _ hz)), ?_⟩
    rw [List.flatMap_cons]
theorem Pr_to {G : Gm} : ∀ (l : List Int32) (gs : List (List Int32)) (c : List Int32), l.Nodup → Pr G l gs c → gs.length = l.length ∧ ∃ f : Int32 → List Int32, c = l.flatMap f ∧ ∀ x, x ∈ l → Sy G (sX G x) (asg l gs x) (f x)
  | [], [], c, _, h => ⟨rfl, fun _ => [], by rw [h]; rfl, fun x hx => by simp at hx⟩
  | [], _ :: _, _, _, h => h.elim
  | _ :: _, [], _, _, h => h.elim
  | x :: xs, g :: gs, c, n, h => by
    rw [List.nodup_cons] at n
    obtain ⟨a, b, h1, h2, rfl⟩ := h
    obtain ⟨k1, f, k2, k3⟩ := Pr_to xs gs b n.2 h2
    refine ⟨by simp [k1], fun z => if z = x then a else f z, ?_, ?_⟩
    · rw [List.flatMap_cons, if_pos rfl, k2]
      congr 1
      apply fm_congr
      intro z hz
      rw [if_neg (fun e : z = x => n.1 (e ▸ hz))]
    · intro z hz
      show Sy G (sX G z) (if z = x then g else asg xs gs z) (if z = x then a else f z)
      by_cases c : z = x
      · rw [if_pos c, if_pos c, c]
        exact h1
      · rw [if_neg c, if_neg c]
        exact k3 z (by simpa [c] using hz)
/-- a rule's symbols are y when its variables are these segments -/
def Spl (l : List Int32) (y : List Int32) (gs : List (List Int32)) : Prop := gs.length = (dv l).length ∧ y = l.flatMap (sub (asg (dv l) gs))
/-- the trees by rule r for y -/
def Tr (G : Gm) (r : Nat) (y c : List Int32) : Prop := ∃ gs d, Spl (gry G r) y gs ∧ Pr G (dv (gry G r)) gs d ∧ c = nI r :: d
def Lf (G : Gm) (s : Nat) (y c : List Int32) : Prop := ∃ x : Int32, x < 0 ∧ c = [x] ∧ y = [x] ∧ sX G x = s
theorem Sy_iff {G : Gm} {s : Nat} {y c : List Int32} : Sy G s y c ↔ Lf G s y c ∨ ∃ r, r < gR G ∧ grs G r = s ∧ Tr G r y c := by
  constructor
  · rintro ⟨n, h⟩
    match n, h with
    | 0, h => exact h.elim
    | n + 1, Or.inl h => exact Or.inl h
    | n + 1, Or.inr ⟨r, h1, h2, f, g, h3, h4, h5⟩ =>
      refine Or.inr ⟨r, h1, h2, (dv (gry G r)).map g, (dv (gry G r)).flatMap f, ⟨by simp, ?_⟩, Pr_of _ (fun x hx => ⟨n, h5 x hx⟩), h3⟩
      rw [h4]
      exact sub_congr (fun x hx => (asg_map g _ x hx).symm)
  · rintro (h | ⟨r, h1, h2, gs, d, ⟨h3, h4⟩, h5, h6⟩)
    · exact ⟨1, Or.inl h⟩
    · obtain ⟨_, f, k2, k3⟩ := Pr_to _ gs d (dv_nd _) h5
      obtain ⟨n, hn⟩ := T_list _ k3
      exact ⟨n + 1, Or.inr ⟨r, h1, h2, f, asg (dv (gry G r)) gs, by rw [h6, k2], h4, hn⟩⟩
theorem Sy_ne {G : Gm} {s : Nat} {y c : List Int32} (h : Sy G s y c) : c ≠ [] := by
  rcases Sy_iff.mp h with ⟨x, _, rfl, _⟩ | ⟨r, _, _, gs, d, _, _, rfl⟩
  · simp
  · simp
theorem Pr_pre {G : Gm} (hR : gR G ≤ 30) : ∀ {l : List Int32} {gs hs : List (List Int32)} {c c' a b : List Int32}, Pr G l gs c → Pr G l hs c' → c ++ a = c' ++ b → c = c' ∧ gs = hs ∧ a = b
  | [], [], [], c, c', a, b, h, k, e => by
    cases h; cases k
    exact ⟨rfl, rfl, by simpa using e⟩
  | [], _ :: _, _, _, _, _, _, h, _, _ => h.elim
  | [], [], _ :: _, _, _, _, _, _, h, _ => h.elim
  | _ :: _, [], _, _, _, _, _, h, _, _ => h.elim
  | _ :: _, _ :: _, [], _, _, _, _, _, h, _ => h.elim
  | x :: xs, g :: gs, k :: hs, c, c', a, b, h, h', e => by
    obtain ⟨u, v, h1, h2, rfl⟩ := h
    obtain ⟨u', v', k1, k2, rfl⟩ := h'
    rw [List.append_assoc, List.append_assoc] at e
    obtain ⟨e1, e2, _, e3⟩ := Sy_pre hR h1 k1 e
    obtain ⟨i1, i2, i3⟩ := Pr_pre hR h2 k2 e3
    exact ⟨by rw [e1, i1], by rw [e2, i2], i3⟩
theorem Pr_snoc {G : Gm} : ∀ {l : List Int32} {gs : List (List Int32)} {x : Int32} {g : List Int32} {c : List Int32}, gs.length = l.length → (Pr G (l ++ [x]) (gs ++ [g]) c ↔ catc (Pr G l gs) (Sy G (sX G x) g) c)
  | [], [], x, g, c, _ => by
    constructor
    · rintro ⟨a, b, h1, h2, rfl⟩
      cases h2
      exact ⟨[], a, rfl, h1, by simp⟩
    · rintro ⟨a, b, h1, h2, rfl⟩
      cases h1
      exact ⟨b, [], h2, rfl, by simp⟩
  | [], _ :: _, _, _, _, h => by simp at h
  | _ :: _, [], _, _, _, h => by simp at h
  | z :: zs, k :: gs, x, g, c, h => by
    have ih := fun c => Pr_snoc (G := G) (l := zs) (gs := gs) (x := x) (g := g) (c := c) (by simpa using h)
    constructor
    · rintro ⟨a, b, h1, h2, rfl⟩
      obtain ⟨u, v, k1, k2, rfl⟩ := (ih b).mp h2
      exact ⟨a ++ u, v, ⟨a, u, h1, k1, rfl⟩, k2, by simp⟩
    · rintro ⟨a, b, ⟨u, v, h1, h2, rfl⟩, h3, rfl⟩
      exact ⟨u, v ++ b, h1, (ih (v ++ b)).mpr ⟨v, b, h2, h3, rfl⟩, by simp⟩
