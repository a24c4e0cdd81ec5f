/-! codes read as a tree -/
def hasC (G : Gm) (c : Int32) : Prop := (∃ r, r < gR G ∧ c = nI r) ∨ ∃ v, v < gV G ∧ c = vS v
def sC (G : Gm) (c : Int32) : Nat := if c < 0 then sX G c else grs G c.toNatClampNeg
def slS (G : Gm) (c : Int32) : List Nat := if c < 0 then [] else (dv (gry G c.toNatClampNeg)).map (sX G)
/-- codes, place, sorts that are awaited (the next one first); verdict, place of the fault -/
def rdr (G : Gm) : List Int32 → Nat → List Nat → Nat → Nat → Prop
  | [], p, st, v, q => (st = [] ∧ v = 0 ∧ q = p) ∨ (st ≠ [] ∧ v = 1 ∧ q = p)
  | _ :: _, p, [], v, q => v = 4 ∧ q = p
  | c :: cs, p, s :: st, v, q => (¬ hasC G c ∧ v = 2 ∧ q = p) ∨ (hasC G c ∧ sC G c ≠ s ∧ v = 3 ∧ q = p) ∨ (hasC G c ∧ sC G c = s ∧ rdr G cs (p + 1) (slS G c ++ st) v q)
theorem rdr_uniq {G : Gm} : ∀ {cs : List Int32} {p : Nat} {st : List Nat} {v q v' q' : Nat}, rdr G cs p st v q → rdr G cs p st v' q' → v = v' ∧ q = q'
  | [], p, st, v, q, v', q', h, k => by
    rcases h with ⟨h1, h2, h3⟩ | ⟨h1, h2, h3⟩
    · rcases k with ⟨k1, k2, k3⟩ | ⟨k1, k2, k3⟩
      · omega
      · exact absurd h1 k1
    · rcases k with ⟨k1, k2, k3⟩ | ⟨k1, k2, k3⟩
      · exact absurd k1 h1
      · omega
  | c :: cs, p, [], v, q, v', q', h, k => by
    have h : v = 4 ∧ q = p := h
    have k : v' = 4 ∧ q' = p := k
    omega
  | c :: cs, p, s :: st, v, q, v', q', h, k => by
    rcases h with ⟨h1, h2, h3⟩ | ⟨h1, h2, h3, h4⟩ | ⟨h1, h2, h3⟩
    · rcases k with ⟨k1, k2, k3⟩ | ⟨k1, _⟩ | ⟨k1, _⟩
      · omega
      · exact absurd k1 h1
      · exact absurd k1 h1
    · rcases k with ⟨k1, _⟩ | ⟨k1, k2, k3, k4⟩ | ⟨k1, k2, k3⟩
      · exact absurd h1 k1
      · omega
      · exact absurd k2 h2
    · rcases k with ⟨k1, _⟩ | ⟨k1, k2, k3, k4⟩ | ⟨k1, k2, k3⟩
      · exact absurd h1 k1
      · exact absurd h2 k2
      · exact rdr_uniq h3 k3
theorem rdr_le {G : Gm} : ∀ {cs : List Int32} {p : Nat} {st : List Nat} {v q : Nat}, rdr G cs p st v q → v ≤ 4 ∧ q ≤ p + cs.length
  | [], p, st, v, q, h => by
    rcases h with ⟨h1, h2, h3⟩ | ⟨h1, h2, h3⟩ <;> simp <;> omega
  | c :: cs, p, [], v, q, h => by
    have h : v = 4 ∧ q = p := h
    simp
    omega
  | c :: cs, p, s :: st, v, q, h => by
    rcases h with ⟨h1, h2, h3⟩ | ⟨h1, h2, h3, h4⟩ | ⟨h1, h2, h3⟩
    · simp; omega
    · simp; omega
    · have := rdr_le h3
      simp only [List.length_cons]
      omega
/-- the symbols of the trees that these codes are, the first one first -/
def yv (G : Gm) : List Int32 → List (List Int32)
  | [] => []
  | c :: cs => if c < 0 then [c] :: yv G cs else ((gry G c.toNatClampNeg).flatMap (sub (asg (dv (gry G c.toNatClampNeg)) (yv G cs)))) :: (yv G cs).drop (dv (gry G c.toNatClampNeg)).length
def Vld (G : Gm) : List Int32 → Prop
  | [] => True
  | c :: cs => Vld G cs ∧ hasC G c ∧ (slS G c).length ≤ (yv G cs).length
theorem yv_r {G : Gm} {r : Nat} (hr : r < 30) (cs : List Int32) : yv G (nI r :: cs) = ((gry G r).flatMap (sub (asg (dv (gry G r)) (yv G cs)))) :: (yv G cs).drop (dv (gry G r)).length := by
  show (if nI r < 0 then _ else _) = _
  rw [if_neg (nI_pos (by omega)), nI_clamp (by omega)]
theorem yv_n {G : Gm} {c : Int32} (h : c < 0) (cs : List Int32) : yv G (c :: cs) = [c] :: yv G cs := if_pos h
theorem sl_r {G : Gm} {r : Nat} (hr : r < 30) : slS G (nI r) = (dv (gry G r)).map (sX G) := by
  unfold slS
  rw [if_neg (nI_pos (by omega)), nI_clamp (by omega)]
theorem sl_n {G : Gm} {c : Int32} (h : c < 0) : slS G c = [] := if_pos h
theorem sC_r {G : Gm} {r : Nat} (hr : r < 30) : sC G (nI r) = grs G r := by
  unfold sC
  rw [if_neg (nI_pos (by omega)), nI_clamp (by omega)]
theorem sC_n {G : Gm} {v : Nat} (hv : v < 20) : sC G (vS v) = gvs G v := by
  unfold sC sX
  rw [if_pos (vS_neg (by omega)), vI_vS (by omega)]
theorem rdr_vld {G : Gm} (h : GOK G) : ∀ {cs : List Int32} {p : Nat} {st : List Nat} {q : Nat}, rdr G cs p st 0 q → Vld G cs ∧ (yv G cs).length = st.length
  | [], p, st, q, k => by
    rcases k with ⟨k1, _⟩ | ⟨_, k2, _⟩
    · rw [k1]
      exact ⟨trivial, rfl⟩
    · omega
  | c :: cs, p, [], q, k => by
    have k : 0 = 4 ∧ q = p := k
    omega
  | c :: cs, p, s :: st, q, k => by
    have hR := h.2.2.1
    have hV := h.2.1
    rcases k with ⟨_, k2, _⟩ | ⟨_, _, k2, _⟩ | ⟨k1, k2, k3⟩
    · omega
    · omega
    · obtain ⟨i1, i2⟩ := rdr_vld h k3
      rw [List.length_append] at i2
      refine ⟨⟨i1, k1, by omega⟩, ?_⟩
      rcases k1 with ⟨r, hr, rfl⟩ | ⟨v, hv, rfl⟩
      · rw [yv_r (by omega), List.length_cons, List.length_drop, i2, sl_r (by omega), List.length_map, List.length_cons]
        omega
      · rw [yv_n (vS_neg (by omega)), List.length_cons, i2, sl_n (vS_neg (by omega))]
        simp
theorem asg_take : ∀ (l : List Int32) (Y : List (List Int32)) (x : Int32), x ∈ l → l.length ≤ Y.length → asg l Y x ∈ Y ∧ asg l (Y.take l.length) x = asg l Y x
  | [], _, _, h, _ => by simp at h
  | _ :: _, [], _, _, h => by simp at h
  | z :: zs, y :: Y, x, h, k => by
    show (if x = z then y else asg zs Y x) ∈ y :: Y ∧ (if x = z then y else asg zs (Y.take zs.length) x) = (if x = z then y else asg zs Y x)
    by_cases c : x = z
    · rw [if_pos c, if_pos c]
      exact ⟨List.mem_cons_self, rfl⟩
    · rw [if_neg c, if_neg c]
      obtain ⟨i1, i2⟩ := asg_take zs Y x (by simpa [c] using h) (by simpa using k)
      exact ⟨List.mem_cons_of_mem _ i1, i2⟩
theorem Vld.ne {G : Gm} (h : GOK G) : ∀ {cs : List Int32}, Vld G cs → ∀ y, y ∈ yv G cs → y ≠ []
  | [], _, y, hy => by simp [yv] at hy
  | c :: cs, k, y, hy => by
    have hR := h.2.2.1
    have hV := h.2.1
    obtain ⟨k1, k2, k3⟩ := k
    have ih := Vld.ne h k1
    rcases k2 with ⟨r, hr, rfl⟩ | ⟨v, hv, rfl⟩
    · rw [yv_r (by omega)] at hy
      rw [sl_r (by omega), List.length_map] at k3
      rcases List.mem_cons.mp hy with rfl | hy
      · match hl : gry G r with
        | [] => exact absurd hl (h.2.2.2.2 r hr).2.1
        | x :: xs =>
          rw [List.flatMap_cons]
          by_cases c : x < 0
          · have hx : x ∈ dv (gry G r) := dv_mem.mpr ⟨by rw [hl]; simp, c⟩
            have := ih _ (asg_take _ _ x hx k3).1
            rw [hl] at this
            simp [sub, c, this]
          · simp [sub, c]
      · exact ih y (List.mem_of_mem_drop hy)
    · rw [yv_n (vS_neg (by omega))] at hy
      rcases List.mem_cons.mp hy with rfl | hy
      · simp
      · exact ih y hy
theorem spl_tot {l : List Int32} {Y : List (List Int32)} (hY : (dv l).length ≤ Y.length) (hn : ∀ y, y ∈ Y → y ≠ []) : (Y.take (dv l).length).flatten.length + l.length ≤ (l.flatMap (sub (asg (dv l) Y))).length + (dv l).length := by
  have e : l.flatMap (sub (asg (dv l) Y)) = l.flatMap (sub (asg (dv l) (Y.take (dv l).length))) := sub_congr (fun x hx => (asg_take _ _ x hx hY).2.symm)
  have := Spl_len (l := l) (gs := Y.take (dv l).length) ⟨by rw [List.length_take]; omega, e⟩ (fun g hg => hn g (List.mem_of_mem_take hg))
  rw [List.length_take] at this
  omega
theorem dv_len (l : List Int32) : (dv l).length ≤ l.length := by
  have a1 := dvs_len l []
  have a2 := List.length_filter_le (fun x => decide (x < 0)) l
  unfold dv
  simp only [List.length_nil] at a1
  omega
/-- the waiting symbols never get less -/
theorem tot_mono {G : Gm} (h : GOK G) {c : Int32} {cs : List Int32} (k : Vld G (c :: cs)) : (yv G cs).flatten.length ≤ (yv G (c :: cs)).flatten.length := by
  have hR := h.2.2.1
  have hV := h.2.1
  obtain ⟨k1, k2, k3⟩ := k
  rcases k2 with ⟨r, hr, rfl⟩ | ⟨v, hv, rfl⟩
  · rw [sl_r (by omega), List.length_map] at k3
    rw [yv_r (by omega), List.flatten_cons, List.length_append]
    have h1 := spl_tot k3 (Vld.ne h k1)
    have h2 := dv_len (gry G r)
    have h3 : (yv G cs).flatten.length = ((yv G cs).take (dv (gry G r)).length).flatten.length + ((yv G cs).drop (dv (gry G r)).length).flatten.length := by
      rw [← List.length_append, ← List.flatten_append, List.take_append_drop]
    omega
  · rw [yv_n (vS_neg (by omega)), List.flatten_cons, List.length_append]
    simp
theorem tot_drop {G : Gm} (h : GOK G) : ∀ (m : Nat) {cs : List Int32}, Vld G cs → (yv G (cs.drop m)).flatten.length ≤ (yv G cs).flatten.length
  | 0, cs, _ => by rw [List.drop_zero]; exact Nat.le_refl _
  | m + 1, [], _ => by simp
  | m + 1, c :: cs, k => by
    rw [List.drop_succ_cons]
    exact Nat.le_trans (tot_drop h m k.1) (tot_mono h k)
/-- trees read as themselves -/
theorem T_read {G : Gm} (h : GOK G) : ∀ {n s : Nat} {c y : List Int32}, T G n s c y → (∀ x, x ∈ y → okSym (gV G) x) → ∀ (rest : List Int32) (p : Nat) (st : List Nat) (v q : Nat), (rdr G rest (p + c.length) st v q → rdr G (c ++ rest) p (s :: st) v q) ∧ yv G (c ++ rest) = y :: yv G rest
  | 0, _, _, _, k, _, _, _, _, _, _ => k.elim
  | n + 1, s, c, y, k, hy, rest, p, st, v, q => by
    have hR := h.2.2.1
    have hV := h.2.1
    rcases k with ⟨x, h1, rfl, rfl, h4⟩ | ⟨r, h1, h2, f, g, rfl, rfl, h5⟩
    · have hx := hy x (by simp)
      obtain ⟨w, hw, rfl⟩ : ∃ w, w < gV G ∧ x = vS w := by
        rcases hx with ⟨c, hc, rfl⟩ | hx
        · exact absurd h1 (nI_pos (by omega))
        · exact hx
      refine ⟨fun hr => Or.inr (Or.inr ⟨Or.inr ⟨w, hw, rfl⟩, ?_, ?_⟩), ?_⟩
      · rw [sC_n (by omega), ← h4]
        unfold sX
        rw [vI_vS (by omega)]
      · rw [sl_n h1]
        exact hr
      · exact yv_n h1 rest
    · have part : ∀ (l : List Int32), (∀ x, x ∈ l → x ∈ dv (gry G r)) → (∀ (p : Nat), rdr G rest (p + (l.flatMap f).length) st v q → rdr G (l.flatMap f ++ rest) p (l.map (sX G) ++ st) v q) ∧ yv G (l.flatMap f ++ rest) = l.map g ++ yv G rest := by
        intro l
        induction l with
        | nil => intro _; exact ⟨fun p hr => hr, rfl⟩
        | cons x xs ih =>
          intro hl
          obtain ⟨i1, i2⟩ := ih (fun z hz => hl z (List.mem_cons_of_mem _ hz))
          have hx := hl x List.mem_cons_self
          obtain ⟨q1, q2⟩ := dv_mem.mp hx
          have hgy : ∀ z, z ∈ g x → okSym (gV G) z := by
            intro z hz
            apply hy
            refine List.mem_flatMap.mpr ⟨x, q1, ?_⟩
            unfold sub
            rw [if_pos q2]
            exact hz
          have hT := fun p => T_read h (h5 x hx) hgy (xs.flatMap f ++ rest) p (xs.map (sX G) ++ st) v q
          rw [List.flatMap_cons, List.append_assoc, List.map_cons, List.map_cons]
          constructor
          · intro p hr
            refine (hT p).1 (i1 _ ?_)
            rw [List.length_append, ← Nat.add_assoc] at hr
            exact hr
          · rw [(hT 0).2, i2]
            rfl
      obtain ⟨p1, p2⟩ := part (dv (gry G r)) (fun x hx => hx)
      refine ⟨fun hr => Or.inr (Or.inr ⟨Or.inl ⟨r, h1, rfl⟩, ?_, ?_⟩), ?_⟩
      · rw [sC_r (by omega), h2]
      · rw [sl_r (by omega)]
        refine p1 (p + 1) ?_
        rw [List.length_cons] at hr
        rw [show p + 1 + ((dv (gry G r)).flatMap f).length = p + (((dv (gry G r)).flatMap f).length + 1) by omega]
        exact hr
      · rw [List.cons_append, yv_r (by omega), p2]
        congr 1
        · apply sub_congr
          intro x hx
          have e := (asg_take (dv (gry G r)) ((dv (gry G r)).map g ++ yv G rest) x hx (by simp)).2
          rw [← e]
          rw [List.take_append_of_le_length (by simp), List.take_of_length_le (by simp)]
          exact asg_map g _ x hx
        · rw [List.drop_append_of_le_length (by simp), List.drop_of_length_le (by simp)]
          rfl
theorem Sy_read {G : Gm} (h : GOK G) {s : Nat} {c y : List Int32} (k : Sy G s y c) (hy : ∀ x, x ∈ y → okSym (gV G) x) : rdr G c 0 [s] 0 c.length ∧ yv G c = [y] := by
  obtain ⟨n, hn⟩ := k
  obtain ⟨h1, h2⟩ := T_read h hn hy [] 0 [] 0 c.length
  rw [List.append_nil] at h1 h2
  exact ⟨h1 (Or.inl ⟨rfl, rfl, by omega⟩), h2⟩
