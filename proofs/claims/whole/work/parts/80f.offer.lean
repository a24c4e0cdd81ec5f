/-! parts one behind the other, by number; the least row of parts and those with one part that is not the least -/
def cat (f : Nat → List Int32) : Nat → List Int32
  | 0 => []
  | m + 1 => cat f m ++ f m
theorem cat_congr {f g : Nat → List Int32} : ∀ (m : Nat), (∀ k, k < m → f k = g k) → cat f m = cat g m
  | 0, _ => rfl
  | m + 1, h => by
    show cat f m ++ f m = cat g m ++ g m
    rw [cat_congr m (fun k hk => h k (by omega)), h m (by omega)]
theorem cat_cle {f g : Nat → List Int32} : ∀ (m : Nat), (∀ k, k < m → cle (f k) (g k)) → cle (cat f m) (cat g m)
  | 0, _ => Or.inl rfl
  | m + 1, h => cle_app (cat_cle m (fun k hk => h k (by omega))) (h m (by omega))
theorem cat_cl {f g : Nat → List Int32} : ∀ (m : Nat), (∀ k, k < m → cle (f k) (g k)) → (∃ k, k < m ∧ cl (f k) (g k)) → cl (cat f m) (cat g m)
  | 0, _, ⟨k, hk, _⟩ => by omega
  | m + 1, h, ⟨k, hk, hc⟩ => by
    by_cases e : k = m
    · subst e
      exact cl_app_r (cat_cle k (fun j hj => h j (by omega))) hc
    · exact cl_app_l (cat_cl m (fun j hj => h j (by omega)) ⟨k, by omega, hc⟩) (h m (by omega))
theorem cat_pre {G : Gm} (hR : gR G ≤ 30) {f g : Nat → List Int32} {s t : Nat → Nat} {ys zs : Nat → List Int32} : ∀ (m : Nat) (a b : List Int32), (∀ k, k < m → Sy G (s k) (ys k) (f k)) → (∀ k, k < m → Sy G (t k) (zs k) (g k)) → cat f m ++ a = cat g m ++ b → (∀ k, k < m → f k = g k ∧ ys k = zs k) ∧ a = b
  | 0, a, b, _, _, e => ⟨fun k hk => by omega, by simpa [cat] using e⟩
  | m + 1, a, b, h, k, e => by
    have e' : cat f m ++ (f m ++ a) = cat g m ++ (g m ++ b) := by
      rw [← List.append_assoc, ← List.append_assoc]
      exact e
    obtain ⟨i1, i2⟩ := cat_pre hR m (f m ++ a) (g m ++ b) (fun k hk => h k (by omega)) (fun j hj => k j (by omega)) e'
    obtain ⟨q1, q2, _, q3⟩ := Sy_pre hR (h m (by omega)) (k m (by omega)) i2
    refine ⟨fun j hj => ?_, q3⟩
    by_cases c : j = m
    · subst c
      exact ⟨q1, q2⟩
    · exact i1 j (by omega)
/-- what is offered for one way: all parts least, or one of them the second -/
def swp (a b : Nat → List Int32) (j : Nat) : Nat → List Int32 := fun k => if k = j then b k else a k
def Off (a b : Nat → List Int32) (h2 : Nat → Prop) (m : Nat) (c : List Int32) : Prop := c = cat a m ∨ ∃ j, j < m ∧ h2 j ∧ c = cat (swp a b j) m
theorem Off_dom {A : Nat → List Int32 → Prop} {a b : Nat → List Int32} {h2 : Nat → Prop} {m : Nat}
    (hb : ∀ k, k < m → h2 k → cl (a k) (b k)) (hA : ∀ k, k < m → ∀ e, A k e → e = a k ∨ (h2 k ∧ (e = b k ∨ cl (b k) e)))
    {c : Nat → List Int32} (hc : ∀ k, k < m → A k (c k)) : Off a b h2 m (cat c m) ∨ ∃ x y, Off a b h2 m x ∧ Off a b h2 m y ∧ x ≠ y ∧ cl x (cat c m) ∧ cl y (cat c m) := by
  by_cases all : ∀ k, k < m → c k = a k
  · exact Or.inl (Or.inl (cat_congr m all))
  · have : ∃ k, k < m ∧ c k ≠ a k := by
      apply Classical.byContradiction
      intro hn
      apply all
      intro k hk
      apply Classical.byContradiction
      exact fun q => hn ⟨k, hk, q⟩
    obtain ⟨j, hj, hne⟩ := this
    have hle : ∀ k, k < m → cle (a k) (c k) := by
      intro k hk
      rcases hA k hk (c k) (hc k hk) with r | ⟨r1, r2 | r2⟩
      · exact Or.inl r.symm
      · exact Or.inr (r2 ▸ hb k hk r1)
      · exact Or.inr (cl_trans (hb k hk r1) r2)
    obtain ⟨r1, r2⟩ := (hA j hj (c j) (hc j hj)).resolve_left hne
    have hj2 : cle (b j) (c j) := by
      rcases r2 with r2 | r2
      · exact Or.inl r2.symm
      · exact Or.inr r2
    have base : cl (cat a m) (cat c m) := cat_cl m hle ⟨j, hj, lt_cle (hb j hj r1) hj2⟩
    have bs : cl (cat a m) (cat (swp a b j) m) := by
      refine cat_cl m (fun k hk => ?_) ⟨j, hj, ?_⟩
      · unfold swp
        by_cases e : k = j
        · rw [if_pos e, e]; exact Or.inr (hb j hj r1)
        · rw [if_neg e]; exact Or.inl rfl
      · unfold swp
        rw [if_pos rfl]; exact hb j hj r1
    have sle : ∀ k, k < m → cle (swp a b j k) (c k) := by
      intro k hk
      unfold swp
      by_cases e : k = j
      · rw [if_pos e, e]; exact hj2
      · rw [if_neg e]; exact hle k hk
    by_cases one : ∀ k, k < m → c k = swp a b j k
    · exact Or.inl (Or.inr ⟨j, hj, r1, cat_congr m one⟩)
    · have : ∃ k, k < m ∧ c k ≠ swp a b j k := by
        apply Classical.byContradiction
        intro hn
        apply one
        intro k hk
        apply Classical.byContradiction
        exact fun q => hn ⟨k, hk, q⟩
      obtain ⟨i, hi, hin⟩ := this
      refine Or.inr ⟨cat a m, cat (swp a b j) m, Or.inl rfl, Or.inr ⟨j, hj, r1, rfl⟩, cl_ne bs, base, ?_⟩
      exact cat_cl m sle ⟨i, hi, (sle i hi).resolve_left (fun e => hin e.symm)⟩
/-- rows of parts, by number -/
theorem Pr_cat {G : Gm} : ∀ (m : Nat) (l : List Int32) (gs : List (List Int32)) (c : List Int32), l.length = m → gs.length = m → (Pr G l gs c ↔ ∃ f, c = cat f m ∧ ∀ k, k < m → Sy G (sX G (l.getD k 0)) (gs.getD k []) (f k))
  | 0, l, gs, c, h1, h2 => by
    rw [List.length_eq_zero_iff.mp h1, List.length_eq_zero_iff.mp h2]
    constructor
    · intro h
      exact ⟨fun _ => [], h, fun k hk => by omega⟩
    · rintro ⟨f, h, _⟩
      exact h
  | m + 1, l, gs, c, h1, h2 => by
    have hl : l ≠ [] := by intro e; rw [e] at h1; simp at h1
    have hg : gs ≠ [] := by intro e; rw [e] at h2; simp at h2
    obtain ⟨l', x, rfl⟩ : ∃ l' x, l = l' ++ [x] := ⟨l.dropLast, l.getLast hl, (List.dropLast_concat_getLast hl).symm⟩
    obtain ⟨gs', g, rfl⟩ : ∃ l' x, gs = l' ++ [x] := ⟨gs.dropLast, gs.getLast hg, (List.dropLast_concat_getLast hg).symm⟩
    simp only [List.length_append, List.length_cons, List.length_nil] at h1 h2
    have e1 : l'.length = m := by omega
    have e2 : gs'.length = m := by omega
    have g1 : ∀ k, k < m → (l' ++ [x]).getD k 0 = l'.getD k 0 := by
      intro k hk
      simp [List.getD_eq_getElem?_getD, List.getElem?_append, e1, hk]
    have g2 : ∀ k, k < m → (gs' ++ [g]).getD k [] = gs'.getD k [] := by
      intro k hk
      simp [List.getD_eq_getElem?_getD, List.getElem?_append, e2, hk]
    have g3 : (l' ++ [x]).getD m 0 = x := by
      simp [List.getD_eq_getElem?_getD, List.getElem?_append, e1]
    have g4 : (gs' ++ [g]).getD m [] = g := by
      simp [List.getD_eq_getElem?_getD, List.getElem?_append, e2]
    rw [Pr_snoc (by omega)]
    constructor
    · rintro ⟨a, b, h3, h4, rfl⟩
      obtain ⟨f, f1, f2⟩ := (Pr_cat m l' gs' a e1 e2).mp h3
      refine ⟨fun k => if k = m then b else f k, ?_, ?_⟩
      · show _ = cat (fun k => if k = m then b else f k) m ++ (if m = m then b else f m)
        rw [if_pos rfl, f1, cat_congr (f := fun k => if k = m then b else f k) (g := f) m (fun k hk => if_neg (by omega))]
      · intro k hk
        by_cases c : k = m
        · subst c
          show Sy G _ _ (if k = k then b else f k)
          rw [if_pos rfl, g3, g4]
          exact h4
        · show Sy G _ _ (if k = m then b else f k)
          rw [if_neg c, g1 k (by omega), g2 k (by omega)]
          exact f2 k (by omega)
    · rintro ⟨f, rfl, f2⟩
      refine ⟨cat f m, f m, (Pr_cat m l' gs' _ e1 e2).mpr ⟨f, rfl, fun k hk => ?_⟩, ?_, rfl⟩
      · have := f2 k (by omega)
        rw [g1 k hk, g2 k hk] at this
        exact this
      · have := f2 m (by omega)
        rw [g3, g4] at this
        exact this
/-! chains at the top of a tree -/
def Ua (G : Gm) (k s : Nat) (y c : List Int32) : Prop := ∃ u b, Pv G s u ∧ u.length ≤ k ∧ Bs G (pe G s u) y b ∧ c = u.map nI ++ b
/-- one round: the base, and unit rules over what is known -/
def Rd (G : Gm) (A : Nat → List Int32 → Prop) (q s : Nat) (y c : List Int32) : Prop := Bs G s y c ∨ ∃ r, r < q ∧ r < gR G ∧ isU G r ∧ grs G r = s ∧ ∃ d, A (uS G r) d ∧ c = nI r :: d
theorem Ua_0 {G : Gm} {s : Nat} {y c : List Int32} (h : Ua G 0 s y c) : Bs G s y c := by
  obtain ⟨u, b, h1, h2, h3, h4⟩ := h
  have : u = [] := List.length_eq_zero_iff.mp (by omega)
  subst this
  rw [h4]
  exact h3
theorem Ua_Sy {G : Gm} {k s : Nat} {y c : List Int32} (h : Ua G k s y c) : Sy G s y c := by
  obtain ⟨u, b, h1, h2, h3, h4⟩ := h
  rw [h4]
  exact Sy_chain u s h1 (Bs_Sy h3)
theorem Rd_lo {G : Gm} (h : GOK G) {A : Nat → List Int32 → Prop} {k s : Nat} {y c : List Int32} (hA : ∀ t, t < 6 → ∀ c, Ua G k t y c → A t c) (hc : Ua G (k + 1) s y c) : Rd G A (gR G) s y c := by
  obtain ⟨u, b, h1, h2, h3, h4⟩ := hc
  match u, h1, h2, h3, h4 with
  | [], _, _, h3, h4 => exact Or.inl (by rw [h4]; exact h3)
  | r :: u, h1, h2, h3, h4 =>
    refine Or.inr ⟨r, h1.1, h1.1, h1.2.1, h1.2.2.1, u.map nI ++ b, hA _ (uS_lt6 h h1.1 h1.2.1) _ ⟨u, b, h1.2.2.2, by simp at h2; omega, h3, rfl⟩, by rw [h4]; rfl⟩
theorem Rd_hi {G : Gm} {A : Nat → List Int32 → Prop} {s q : Nat} {y c : List Int32} (hA : ∀ r, r < gR G → isU G r → ∀ c, A (uS G r) c → Sy G (uS G r) y c) (hc : Rd G A q s y c) : Sy G s y c := by
  rcases hc with h | ⟨r, _, h1, h2, h3, d, h4, h5⟩
  · exact Bs_Sy h
  · exact Sy_bu.mpr (Or.inr ⟨r, h1, h3, h2, d, hA r h1 h2 d h4, h5⟩)
theorem Bs_head {G : Gm} (hR : gR G ≤ 30) {s r : Nat} {y d : List Int32} (hr : r < gR G) (hu : isU G r) : ¬ Bs G s y (nI r :: d) := by
  rintro (⟨x, x1, x2, _⟩ | ⟨q, q1, q2, q3, gs, e, _, _, q4⟩)
  · injection x2 with x2 _
    rw [← x2] at x1
    exact nI_pos (by omega) x1
  · injection q4 with q4 _
    have := nI_inj (by omega) (by omega) q4
    subst this
    exact q3 hu
/-- the sum goes on with one more unit rule -/
theorem Rd_next {G : Gm} (hR : gR G ≤ 30) {A : Nat → List Int32 → Prop} {q s : Nat} {y : List Int32} {n m : Nat} (h : Cnt (Rd G A q s y) n) (hq : q < gR G) (hu : isU G q) (hs : grs G q = s) (k : Cnt (A (uS G q)) m) : Cnt (Rd G A (q + 1) s y) (wplus n m) := by
  refine (h.union (k.cons (nI q)) ?_).congr ?_
  · rintro c h1 ⟨d, _, rfl⟩
    rcases h1 with h1 | ⟨r, r1, r2, r3, r4, d', _, r5⟩
    · exact Bs_head hR hq hu h1
    · injection r5 with r5 _
      have := nI_inj (by omega) (by omega) r5
      omega
  · intro c
    constructor
    · rintro ((h1 | ⟨r, r1, r2⟩) | ⟨d, d1, d2⟩)
      · exact Or.inl h1
      · exact Or.inr ⟨r, by omega, r2⟩
      · exact Or.inr ⟨q, by omega, hq, hu, hs, d, d1, d2⟩
    · rintro (h1 | ⟨r, r1, r2, r3, r4, d, r5, r6⟩)
      · exact Or.inl (Or.inl h1)
      · by_cases e : r = q
        · subst e
          exact Or.inr ⟨d, r5, r6⟩
        · exact Or.inl (Or.inr ⟨r, by omega, r2, r3, r4, d, r5, r6⟩)
theorem Rd_skip {G : Gm} {A : Nat → List Int32 → Prop} {q s : Nat} {y : List Int32} {n : Nat} (h : Cnt (Rd G A q s y) n) (hn : ¬ (isU G q ∧ grs G q = s)) : Cnt (Rd G A (q + 1) s y) n := by
  refine h.congr (fun c => ?_)
  constructor
  · rintro (h1 | ⟨r, r1, r2⟩)
    · exact Or.inl h1
    · exact Or.inr ⟨r, by omega, r2⟩
  · rintro (h1 | ⟨r, r1, r2, r3, r4, d, r5, r6⟩)
    · exact Or.inl h1
    · by_cases e : r = q
      · subst e
        exact absurd ⟨r3, r4⟩ hn
      · exact Or.inr ⟨r, by omega, r2, r3, r4, d, r5, r6⟩
/-- a sort that is come back to, with trees, in reach -/
def Loop (G : Gm) (s : Nat) (y : List Int32) : Prop := ∃ a b, Pv G s a ∧ Pv G (pe G s a) b ∧ pe G (pe G s a) b = pe G s a ∧ b ≠ [] ∧ ∃ c, Sy G (pe G s a) y c
theorem Loop_inf {G : Gm} {s : Nat} {y : List Int32} (h : Loop G s y) : Inf (Sy G s y) := by
  obtain ⟨a, b, h1, h2, h3, h4, c, h5⟩ := h
  exact Sy_inf h1 h2 h3 h4 h5
theorem Loop_no {G : Gm} (h : GOK G) {s : Nat} (hs : s < 6) {y : List Int32} (k : ¬ Loop G s y) {c : List Int32} (hc : Sy G s y c) : Ua G 5 s y c := by
  obtain ⟨u, b, u1, u2, u3⟩ := Sy_path c.length s c (Nat.le_refl _) hc
  refine ⟨u, b, u1, ?_, u2, u3⟩
  apply Classical.byContradiction
  intro hn
  obtain ⟨p, q, t, rfl, p1, p2, p3⟩ := Pv_cycle h hs u1 (by omega)
  rw [Pv_app, Pv_app] at u1
  obtain ⟨k1, k2, k3⟩ := u1
  apply k
  refine ⟨p, q, k1, k2, p3, p1, (t.map nI ++ b), ?_⟩
  rw [← p3]
  refine Sy_chain t _ k3 ?_
  rw [pe_app, pe_app] at u2
  exact Bs_Sy u2
theorem Sy_ex5 {G : Gm} (h : GOK G) {s : Nat} (hs : s < 6) {y c : List Int32} (hc : Sy G s y c) : ∃ d, Ua G 5 s y d := by
  obtain ⟨u, b, u1, u2, u3⟩ := Sy_path c.length s c (Nat.le_refl _) hc
  obtain ⟨v, v1, v2, v3⟩ := Pv_short h hs u.length u (Nat.le_refl _) u1
  exact ⟨v.map nI ++ b, v, b, v1, v3, v2.symm ▸ u2, rfl⟩
/-! the two least of each sort, closed under unit rules -/
def dom (p : List (List Int32)) (e : List Int32) : Prop := e ∈ p ∨ (p.length = 2 ∧ ∀ c, c ∈ p → cl c e)
theorem dom_two {p : List (List Int32)} (hl : p.length ≤ 2) {a b e : List Int32} (ha : dom p a) (hb : dom p b) (hn : a ≠ b) (la : cl a e) (lb : cl b e) : dom p e := by
  right
  rcases ha with ha | ⟨h1, h2⟩
  · rcases hb with hb | ⟨h1, h2⟩
    · match p, hl, ha, hb with
      | [], _, ha, _ => simp at ha
      | [x], _, ha, hb =>
        simp only [List.mem_cons, List.not_mem_nil, or_false] at ha hb
        exact absurd (ha.trans hb.symm) hn
      | [x, y], _, ha, hb =>
        simp only [List.mem_cons, List.not_mem_nil, or_false] at ha hb
        refine ⟨rfl, fun c hc => ?_⟩
        simp only [List.mem_cons, List.not_mem_nil, or_false] at hc
        rcases ha with rfl | rfl <;> rcases hb with rfl | rfl <;> rcases hc with rfl | rfl <;> first | exact la | exact lb | exact absurd rfl hn
      | _ :: _ :: _ :: _, hl, _, _ => simp at hl
    · exact ⟨h1, fun c hc => cl_trans (h2 c hc) lb⟩
  · exact ⟨h1, fun c hc => cl_trans (h2 c hc) la⟩
theorem Two_closed {G : Gm} (h : GOK G) {y : List Int32} (hy : y.length ≤ 12) {P : Nat → List (List Int32)}
    (p1 : ∀ s, s < 6 → (P s).length ≤ 2) (p2 : ∀ s, s < 6 → ∀ c, c ∈ P s → Sy G s y c) (p3 : ∀ s, s < 6 → (P s).Pairwise cl)
    (pb : ∀ s, s < 6 → ∀ c, Bs G s y c → dom (P s) c)
    (pu : ∀ r, r < gR G → isU G r → ∀ c, c ∈ P (uS G r) → c.length < 150 → dom (P (grs G r)) (nI r :: c)) : ∀ s, s < 6 → Two (Sy G s y) (P s) := by
  have key : ∀ (n : Nat) (s : Nat), s < 6 → ∀ e, e.length ≤ n → Sy G s y e → dom (P s) e := by
    intro n
    induction n with
    | zero =>
      intro s _ e he k
      exact absurd (List.length_eq_zero_iff.mp (by omega)) (Sy_ne k)
    | succ n ih =>
      intro s hs e he k
      by_cases big : 12 * y.length < e.length
      · obtain ⟨a, b, a1, b1, ab, a2, b2⟩ := Sy_big h hs k big
        exact dom_two (p1 s hs) (ih s hs a (by omega) a1) (ih s hs b (by omega) b1) ab (Or.inl (by omega)) (Or.inl (by omega))
      · rcases Sy_bu.mp k with k | ⟨r, h1, h2, h3, d, h4, rfl⟩
        · exact pb s hs e k
        · simp only [List.length_cons] at he big
          have ht := uS_lt6 h h1 h3
          rcases ih _ ht d (by omega) h4 with q | ⟨q1, q2⟩
          · rw [← h2]
            exact pu r h1 h3 d q (by omega)
          · match hp : P (uS G r), q1, q2 with
            | [a, b], _, q2 =>
              have la := q2 a (by simp)
              have lb := q2 b (by simp)
              have l1 := cl_len la
              have l2 := cl_len lb
              have hab : a ≠ b := by
                have := p3 _ ht
                rw [hp] at this
                exact cl_ne (by simpa using this)
              rw [← h2]
              refine dom_two (p1 _ (h2 ▸ hs)) (pu r h1 h3 a (by rw [hp]; simp) (by omega)) (pu r h1 h3 b (by rw [hp]; simp) (by omega)) ?_ (cl_cons.mpr la) (cl_cons.mpr lb)
              intro e
              injection e with _ e
              exact hab e
            | [], q1, _ => simp at q1
            | [_], q1, _ => simp at q1
            | _ :: _ :: _ :: _, q1, _ => simp at q1
  intro s hs
  exact ⟨p1 s hs, p2 s hs, p3 s hs, fun e he => key e.length s hs e (Nat.le_refl _) he⟩
