/-- the sizes of a stretch's trees -/
theorem UIv.sizes {G : Gm} {i j : Nat} {us : List Nat} {y : List Int32} {Q0 Q : Nat → Prop} {z u w : Nat} {τ : Nat → Nat → Int32} {C : Nat → List Int32} {V : Nat → Prop} {P : Nat → List (List Int32)} (h : UIv G i j us y Q0 Q z u w τ C V P) :
    ∃ f : Nat → Nat, ∀ s, s < 6 → ∀ b, b < 2 → τ 1 (2 * cO s i j + b) = nI (f (2 * s + b)) ∧ f (2 * s + b) ≤ 150 ∧ ((V (2 * cO s i j + b) ∧ (P s)[b]? = some (C (2 * cO s i j + b)) ∧ f (2 * s + b) = (C (2 * cO s i j + b)).length ∧ 1 ≤ f (2 * s + b)) ∨ (¬ V (2 * cO s i j + b) ∧ (P s)[b]? = none ∧ f (2 * s + b) = 0)) := by
  obtain ⟨hS, hP, _⟩ := h
  refine ⟨fun q => (τ 1 (2 * cO (q / 2) i j + q % 2)).toNatClampNeg, fun s hs b hb => ?_⟩
  have e1 : (2 * s + b) / 2 = s := by omega
  have e2 : (2 * s + b) % 2 = b := by omega
  simp only [e1, e2]
  rcases (hP s hs).get hS.1 hb with ⟨h1, h2, h3, h4⟩ | ⟨h1, h2, h3⟩
  · have := (hS.2.1 _ h1).2
    have e3 : (τ 1 (2 * cO s i j + b)).toNatClampNeg = (C (2 * cO s i j + b)).length := by rw [h3, nI_clamp (by omega)]
    rw [e3]
    exact ⟨h3, this, Or.inl ⟨h1, h2, rfl, h4⟩⟩
  · have e3 : (τ 1 (2 * cO s i j + b)).toNatClampNeg = 0 := by rw [h3]; decide
    rw [e3]
    exact ⟨by rw [h3, nI_0], by omega, Or.inr ⟨h1, h2, rfl⟩⟩
theorem TT.mono {τ : Nat → Nat → Int32} {C : Nat → List Int32} {ar : Int32 → Nat} {V Q Q' : Nat → Prop} (h : TT τ C ar V Q) (k : ∀ t, Q t → Q' t) (l : ∀ t, Q' t → V t) : TT τ C ar V Q' := by
  refine ⟨fun t ht => ⟨(h.1 t ht).1, ?_⟩, l⟩
  obtain ⟨ps, a1, a2, a3, a4, a5⟩ := (h.1 t ht).2
  exact ⟨ps, a1, a2, a3, fun q hq => ⟨(a4 q hq).1, k _ (a4 q hq).2⟩, a5⟩
/-- on to the next size -/
theorem UIv.next {G : Gm} (hG : GOK G) {i j : Nat} (hij : i < j) (hj : j ≤ 12) {us : List Nat} (hum : ∀ r, r ∈ us → r < gR G ∧ isU G r) {y : List Int32} {Q0 Q : Nat → Prop} {z z' : Nat} {τ : Nat → Nat → Int32} {C : Nat → List Int32} {V : Nat → Prop} {P : Nat → List (List Int32)} (h : UIv G i j us y Q0 Q z us.length 0 τ C V P) (hz : z < z') (hgap : ∀ s, s < 6 → ∀ (b : Nat) (c : List Int32), (P s)[b]? = some c → c.length ≤ z ∨ z' ≤ c.length) :
    UIv G i j us y Q0 (fun t => Q t ∨ ((∃ s, s < 6 ∧ (t = 2 * cO s i j ∨ t = 2 * cO s i j + 1)) ∧ V t ∧ (C t).length ≤ z')) z' 0 0 τ C V P := by
  obtain ⟨hS, hP, hT, hQ, hQQ, hQs⟩ := h
  refine ⟨⟨hS.1.mono (fun t ht => Or.inl ht) ?_, hS.2⟩, hP, fun s hs => (hT s hs).congr (fun e => ?_), ?_, fun t ht => Or.inl (hQQ t ht), ?_⟩
  · rintro t (ht | ⟨_, ht, _⟩)
    · exact hS.1.2 t ht
    · exact ht
  · constructor
    · rintro (q | ⟨r, b, c, q1, q2, q3, q4, q5, q6, q7⟩)
      · exact Or.inl q
      · exact Or.inr ⟨r, b, c, q1, q2, q3, q4, by omega, Or.inl (by omega), q7⟩
    · rintro (q | ⟨r, b, c, q1, q2, q3, q4, q5, q6, q7⟩)
      · exact Or.inl q
      · rcases q6 with q6 | q6 | ⟨_, q6⟩
        · have := hgap _ (uS_lt6 hG (hum r q1).1 (hum r q1).2) b c q3
          exact Or.inr ⟨r, b, c, q1, q2, q3, q4, by omega, Or.inr (Or.inl (by rw [List.take_length]; exact q1)), q7⟩
        · simp at q6
        · omega
  · rintro t (ht | ⟨h1, _, h2⟩)
    · rcases hQ t ht with q | ⟨q1, q2⟩
      · exact Or.inl q
      · exact Or.inr ⟨q1, by omega⟩
    · exact Or.inr ⟨h1, h2⟩
  · intro s hs b hb hv hl
    refine Or.inr ⟨⟨s, hs, ?_⟩, hv, hl⟩
    have : b = 0 ∨ b = 1 := by omega
    rcases this with rfl | rfl
    · exact Or.inl rfl
    · exact Or.inr rfl
theorem p_addUnitTrees_11 {N : Nat} (hN : 151 ≤ N) {γ χ : Nat → Nat → Int32} {G : Gm} (hG : GrOK γ G) {i j : Nat} (hij : i < j) (hj : j ≤ 12) {us : List Nat} (hus : us.Nodup) (hul : us.length ≤ 30) (hum : ∀ r, r ∈ us → r < gR G ∧ isU G r) (hc7 : χ 0 7 = nI us.length) (hc3 : ∀ k, k < us.length → χ 3 k = nI (us.getD k 0)) {y : List Int32} {Q0 : Nat → Prop} (hQ0 : ∀ t, Q0 t → ∀ s, s < 6 → t ≠ 2 * cO s i j ∧ t ≠ 2 * cO s i j + 1) :
    ∀ (d st n : Nat) (Q : Nat → Prop) (z z' : Nat) (τ : Nat → Nat → Int32) (C : Nat → List Int32) (V : Nat → Prop) (P : Nat → List (List Int32)) (f : Nat → Nat), st + d = 150 → d < n → st ≤ z → z ≤ 150 → z' ≤ 150 → UIv G i j us y Q0 Q z us.length 0 τ C V P → (∀ s, s < 6 → ∀ b, b < 2 → τ 1 (2 * cO s i j + b) = nI (f (2 * s + b)) ∧ f (2 * s + b) ≤ 150 ∧ ((V (2 * cO s i j + b) ∧ (P s)[b]? = some (C (2 * cO s i j + b)) ∧ f (2 * s + b) = (C (2 * cO s i j + b)).length ∧ 1 ≤ f (2 * s + b)) ∨ (¬ V (2 * cO s i j + b) ∧ (P s)[b]? = none ∧ f (2 * s + b) = 0))) → NS f z z' 12 →
      ∃ τ' C' V' P' Q' zz, UIv G i j us y Q0 Q' zz us.length 0 τ' C' V' P' ∧ (∀ s, s < 6 → ∀ (b : Nat) (c : List Int32), (P' s)[b]? = some c → c.length ≤ zz) ∧ FrS i j χ τ C V χ τ' C' V' ∧ (∀ t, Q0 t → C' t = C t) ∧ l_Ch_addUnitTrees_11 N χ γ (nI i) (nI j) (fun s_table => f_Ch_addUnitTrees_69 N χ γ s_table) n τ (nI z') (nI st) = some τ' := by
  intro d
  induction d with
  | zero =>
    intro st n Q z z' τ C V P f hst hn hsz hz hz' hI hf hNS
    obtain ⟨m, rfl⟩ : ∃ m, n = m + 1 := ⟨n - 1, by omega⟩
    refine ⟨τ, C, V, P, Q, z, hI, ?_, FrS.refl _ _ _ _ _ _, fun _ _ => rfl, ?_⟩
    · intro s hs b c hbc
      have hb := (hI.2.1 s hs).le2 hbc
      rcases (hf s hs b hb).2.2 with ⟨_, h2, h3, _⟩ | ⟨_, h2, _⟩
      · rw [h2] at hbc
        injection hbc with hbc
        subst hbc
        have := (hf s hs b hb).2.1
        omega
      · rw [h2] at hbc
        simp at hbc
    · unfold l_Ch_addUnitTrees_11 f_Ch_addUnitTrees_11
      rw [l_150, if_pos (nI_le (by omega) (by omega))]
      rfl
  | succ d ih =>
    intro st n Q z z' τ C V P f hst hn hsz hz hz' hI hf hNS
    obtain ⟨m, rfl⟩ : ∃ m, n = m + 1 := ⟨n - 1, by omega⟩
    by_cases c0 : z' = 0
    · subst c0
      refine ⟨τ, C, V, P, Q, z, hI, ?_, FrS.refl _ _ _ _ _ _, fun _ _ => rfl, ?_⟩
      · intro s hs b c hbc
        have hb := (hI.2.1 s hs).le2 hbc
        rcases hNS with ⟨_, hNS⟩ | ⟨hNS, _⟩
        · rcases (hf s hs b hb).2.2 with ⟨_, h2, h3, _⟩ | ⟨_, h2, _⟩
          · rw [h2] at hbc
            injection hbc with hbc
            subst hbc
            have := hNS (2 * s + b) (by omega)
            omega
          · rw [h2] at hbc
            simp at hbc
        · omega
      · unfold l_Ch_addUnitTrees_11 f_Ch_addUnitTrees_11
        rw [l_150, if_neg (nI_ge (by omega) (by omega)), if_pos (of_eq_true (c_le0_t rfl))]
        rfl
    · obtain ⟨n1, _, n3⟩ := hNS.resolve_left (fun q => c0 q.1)
      have hI1 := hI.next hG.1 hij hj hum n1 (fun s hs b c hbc => by
        have hb := (hI.2.1 s hs).le2 hbc
        rcases (hf s hs b hb).2.2 with ⟨_, h2, h3, _⟩ | ⟨_, h2, _⟩
        · rw [h2] at hbc
          injection hbc with hbc
          subst hbc
          have := n3 (2 * s + b) (by omega)
          omega
        · rw [h2] at hbc
          simp at hbc)
      obtain ⟨τ1, C1, V1, P1, g1, g2, g3, g4⟩ := p_addUnitTrees_26 hN (χ := χ) hG hij hj hus hul hum hc7 hc3 hQ0 (show 1 ≤ z' by omega) hz' (nI st) (fun s_table => f_Ch_addUnitTrees_55 N (l_Ch_addUnitTrees_11 N χ γ (nI i) (nI j) (fun s_table => f_Ch_addUnitTrees_69 N χ γ s_table) m) (fun s_table => f_Ch_addUnitTrees_69 N χ γ s_table) χ γ s_table (nI i) (nI j) (nI z') (nI st)) us.length 0 N τ C V P (by omega) (by omega) hI1
      obtain ⟨f1, hf1⟩ := g1.sizes
      obtain ⟨z2, y1, y2, y3⟩ := p_nextSize (N := N) (by omega) (χ := χ) (τ := τ1) hij hj (fun s hs b hb => ⟨(hf1 s hs b hb).1, (hf1 s hs b hb).2.1⟩) hz'
      obtain ⟨τ', C', V', P', Q', zz, k1, k2, k3, k4, k5⟩ := ih (st + 1) m _ z' z2 τ1 C1 V1 P1 f1 (by omega) (by omega) (by omega) hz' y1 g1 hf1 y2
      refine ⟨τ', C', V', P', Q', zz, k1, k2, g2.trans k3, fun t ht => by rw [k4 t ht, g3 t (Or.inl (hI.2.2.2.2.1 t ht))], ?_⟩
      unfold l_Ch_addUnitTrees_11 f_Ch_addUnitTrees_11
      rw [l_150, if_neg (nI_ge (by omega) (by omega)), if_neg (of_eq_false (c_le0 (by omega) (by omega))), ← nI_0, g4]
      unfold f_Ch_addUnitTrees_55
      rw [y3, b1_some, nm_d, nI_1]
      exact k5
theorem p_addUnitTrees {N : Nat} (hN : 151 ≤ N) {γ χ : Nat → Nat → Int32} {G : Gm} (hG : GrOK γ G) {i j : Nat} (hij : i < j) (hj : j ≤ 12) {us : List Nat} (hus : us.Nodup) (hul : us.length ≤ 30) (hum : ∀ r, r ∈ us ↔ r < gR G ∧ isU G r) (hc7 : χ 0 7 = nI us.length) (hc3 : ∀ k, k < us.length → χ 3 k = nI (us.getD k 0)) {y : List Int32} (hy : y.length ≤ 12) {Q0 : Nat → Prop} (hQ0 : ∀ t, Q0 t → ∀ s, s < 6 → t ≠ 2 * cO s i j ∧ t ≠ 2 * cO s i j + 1) {τ : Nat → Nat → Int32} {C : Nat → List Int32} {V : Nat → Prop} (hS : FS τ C (ar G) V Q0) {P : Nat → List (List Int32)} (hP : ∀ s, s < 6 → Pair τ C V (cO s i j) (P s)) (hT : ∀ s, s < 6 → Two (Bs G s y) (P s)) :
    ∃ (τ' : Nat → Nat → Int32) (C' : Nat → List Int32) (V' : Nat → Prop) (P' : Nat → List (List Int32)), FS τ' C' (ar G) V' V' ∧ (∀ s, s < 6 → Pair τ' C' V' (cO s i j) (P' s) ∧ Two (Sy G s y) (P' s)) ∧ FrS i j χ τ C V χ τ' C' V' ∧ (∀ t, Q0 t → C' t = C t) ∧ m_Ch_addUnitTrees N χ γ τ (nI i) (nI j) = some τ' := by
  have hI : UIv G i j us y Q0 Q0 0 us.length 0 τ C V P := by
    refine ⟨hS, hP, fun s hs => (hT s hs).congr (fun e => ?_), fun t ht => Or.inl ht, fun t ht => ht, ?_⟩
    · constructor
      · exact fun q => Or.inl q
      · rintro (q | ⟨r, b, c, q1, q2, q3, q4, q5, q6, q7⟩)
        · exact q
        · exfalso
          have h6 := uS_lt6 hG.1 ((hum r).mp q1).1 ((hum r).mp q1).2
          have hb := (hP _ h6).le2 q3
          rcases (hP _ h6).get hS.1 hb with ⟨_, h2, _, h4⟩ | ⟨_, h2, _⟩
          · rw [h2] at q3
            injection q3 with q3
            subst q3
            omega
          · rw [h2] at q3
            simp at q3
    · intro s hs b hb hv hl
      have := (hS.1.1 _ hv).2.ne
      omega
  obtain ⟨f, hf⟩ := hI.sizes
  obtain ⟨z2, y1, y2, y3⟩ := p_nextSize (N := N) (by omega) (χ := χ) (τ := τ) (ab := 0) hij hj (fun s hs b hb => ⟨(hf s hs b hb).1, (hf s hs b hb).2.1⟩) (by omega)
  obtain ⟨τ', C', V', P', Q', zz, k1, k2, k3, k4, k5⟩ := p_addUnitTrees_11 hN hG hij hj hus hul (fun r hr => (hum r).mp hr) hc7 hc3 hQ0 150 0 N Q0 0 z2 τ C V P f (by omega) (by omega) (by omega) (by omega) y1 hI hf y2
  obtain ⟨a1, a2, a3, a4, a5, a6⟩ := k1
  have hsub : ∀ s, s < 6 → ∀ c, c ∈ P' s → Sy G s y c := by
    -- by size
    have key : ∀ (n s : Nat), s < 6 → ∀ c, c.length ≤ n → c ∈ P' s → Sy G s y c := by
      intro n
      induction n with
      | zero =>
        intro s hs c hl hc
        exfalso
        obtain ⟨b, hb, e⟩ := List.mem_iff_getElem.mp hc
        have q3 : (P' s)[b]? = some c := by rw [List.getElem?_eq_getElem hb, e]
        rcases (a2 s hs).get a1.1 ((a2 s hs).le2 q3) with ⟨_, h2, _, h4⟩ | ⟨_, h2, _⟩
        · rw [h2] at q3
          injection q3 with q3
          subst q3
          omega
        · rw [h2] at q3
          simp at q3
      | succ n ihn =>
        intro s hs c hl hc
        rcases (a3 s hs).2.1 c hc with q | ⟨r, b, d, q1, q2, q3, q4, q5, q6, q7⟩
        · exact Bs_Sy q
        · obtain ⟨r1, r2⟩ := (hum r).mp q1
          subst q7
          simp only [List.length_cons] at hl
          exact Sy_bu.mpr (Or.inr ⟨r, r1, q2, r2, d, ihn _ (uS_lt6 hG.1 r1 r2) d (by omega) (List.mem_of_getElem? q3), rfl⟩)
    exact fun s hs c hc => key c.length s hs c (Nat.le_refl _) hc
  have hfin : ∀ s, s < 6 → Two (Sy G s y) (P' s) := by
    refine Two_closed hG.1 hy (fun s hs => (a3 s hs).1) hsub (fun s hs => (a3 s hs).2.2.1) (fun s hs c hc => (a3 s hs).2.2.2 c (Or.inl hc)) ?_
    intro r r1 r2 c hc hl
    have h6 : grs G r < 6 := by
      have h1 := (hG.1.2.2.2.2 r r1).1
      have h2 := hG.1.1
      omega
    obtain ⟨b, hb, e⟩ := List.mem_iff_getElem.mp hc
    have q3 : (P' (uS G r))[b]? = some c := by rw [List.getElem?_eq_getElem hb, e]
    have := k2 _ (uS_lt6 hG.1 r1 r2) b c q3
    exact (a3 _ h6).2.2.2 _ (Or.inr ⟨r, b, c, (hum r).mpr ⟨r1, r2⟩, rfl, q3, hl, this, Or.inr (Or.inl (by rw [List.take_length]; exact (hum r).mpr ⟨r1, r2⟩)), rfl⟩)
  refine ⟨τ', C', V', P', ⟨a1.1.mono (fun t ht => a1.1.2 t ht) (fun t ht => ht), a1.2⟩, fun s hs => ⟨a2 s hs, hfin s hs⟩, k3, k4, ?_⟩
  unfold m_Ch_addUnitTrees f_Ch_addUnitTrees_0
  rw [← nI_0, y3, b1_some]
  exact k5
