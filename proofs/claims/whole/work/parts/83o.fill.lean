/-! one stretch -/
theorem p_fillStretch_2 {N : Nat} {γ : Nat → Nat → Int32} {i j : Nat} (hij : i < j) (hj : j ≤ 12) (χ0 τ0 : Nat → Nat → Int32) (kx : (Nat → Nat → Int32) → (Nat → Nat → Int32) → Option ((Nat → Nat → Int32) × (Nat → Nat → Int32))) : ∀ (d s n : Nat) (χ τ : Nat → Nat → Int32), s + d = 6 → d < n → (∀ b, b ≠ 1 → χ b = χ0 b) → (∀ k, (∀ t, t < 6 → k ≠ cO t i j) → χ 1 k = χ0 1 k) → (∀ b, b ≠ 1 → τ b = τ0 b) → (∀ t, (∀ s, s < 6 → t ≠ 2 * cO s i j ∧ t ≠ 2 * cO s i j + 1) → τ 1 t = τ0 1 t) → (∀ t, t < s → χ 1 (cO t i j) = 0 ∧ τ 1 (2 * cO t i j) = 0 ∧ τ 1 (2 * cO t i j + 1) = 0) →
    ∃ χ' τ', (∀ b, b ≠ 1 → χ' b = χ0 b) ∧ (∀ k, (∀ t, t < 6 → k ≠ cO t i j) → χ' 1 k = χ0 1 k) ∧ (∀ b, b ≠ 1 → τ' b = τ0 b) ∧ (∀ t, (∀ s, s < 6 → t ≠ 2 * cO s i j ∧ t ≠ 2 * cO s i j + 1) → τ' 1 t = τ0 1 t) ∧ (∀ t, t < 6 → χ' 1 (cO t i j) = 0 ∧ τ' 1 (2 * cO t i j) = 0 ∧ τ' 1 (2 * cO t i j + 1) = 0) ∧ l_Ch_fillStretch_2 N γ (nI i) (nI j) kx n χ τ (nI s) = kx χ' τ' := by
  intro d
  induction d with
  | zero =>
    intro s n χ τ hs hn h1 h2 h3 h4 h5
    obtain ⟨m, rfl⟩ : ∃ m, n = m + 1 := ⟨n - 1, by omega⟩
    have : s = 6 := by omega
    subst this
    refine ⟨χ, τ, h1, h2, h3, h4, h5, ?_⟩
    unfold l_Ch_fillStretch_2 f_Ch_fillStretch_2
    rw [l_6, if_pos (nI_le (Nat.le_refl _) (by omega))]
  | succ d ih =>
    intro s n χ τ hs hn h1 h2 h3 h4 h5
    obtain ⟨m, rfl⟩ : ∃ m, n = m + 1 := ⟨n - 1, by omega⟩
    have hs6 : s < 6 := by omega
    have hc := cO_lt hs6 hij hj
    obtain ⟨χ', τ', g1, g2, g3, g4, g5, g6⟩ := ih (s + 1) m (st2 χ 1 (cO s i j) 0) (st2 (st2 τ 1 (2 * cO s i j) 0) 1 (2 * cO s i j + 1) 0) (by omega) (by omega) (fun b hb => by rw [st2_a _ _ _ hb]; exact h1 b hb) (fun k hk => by rw [st2_k _ _ _ (hk s hs6)]; exact h2 k hk) (fun b hb => by rw [st2_a _ _ _ hb, st2_a _ _ _ hb]; exact h3 b hb) (fun t ht => by rw [st2_k _ _ _ (ht s hs6).2, st2_k _ _ _ (ht s hs6).1]; exact h4 t ht)
      (fun t ht => by
        by_cases e : t = s
        · subst e
          refine ⟨st2_s _ _ _ _, by rw [st2_k _ _ _ (by omega), st2_s], st2_s _ _ _ _⟩
        · have hn : cO t i j ≠ cO s i j := fun q => e (cO_inj (by omega) hs6 hij hij q).1
          obtain ⟨q1, q2, q3⟩ := h5 t (by omega)
          refine ⟨by rw [st2_k _ _ _ hn]; exact q1, by rw [st2_k _ _ _ (by omega), st2_k _ _ _ (by omega)]; exact q2, by rw [st2_k _ _ _ (by omega), st2_k _ _ _ (by omega)]; exact q3⟩)
    refine ⟨χ', τ', g1, g2, g3, g4, g5, ?_⟩
    unfold l_Ch_fillStretch_2 f_Ch_fillStretch_2
    rw [l_6, if_neg (nI_ge hs6 (by omega)), p_cellOf hs6 hij hj, b1_some, p_setWays hc, b1_some, p_forget hc, b1_some, nm_d, nI_1]
    exact g6
/-- leaves, and trees by the first q rules -/
def BsQ (G : Gm) (q s : Nat) (y c : List Int32) : Prop := Lf G s y c ∨ ∃ r, r < q ∧ r < gR G ∧ grs G r = s ∧ ¬ isU G r ∧ Tr G r y c
theorem BsQ_full {G : Gm} {s : Nat} {y c : List Int32} : BsQ G (gR G) s y c ↔ Bs G s y c := by
  constructor
  · rintro (h | ⟨r, _, h2, h3, h4, h5⟩)
    · exact Or.inl h
    · exact Or.inr ⟨r, h2, h3, h4, h5⟩
  · rintro (h | ⟨r, h2, h3, h4, h5⟩)
    · exact Or.inl h
    · exact Or.inr ⟨r, h2, h2, h3, h4, h5⟩
theorem Wf_0 {G : Gm} {r : Nat} {a : Nat → Int32} {i j : Nat} {f t : Nat → Nat} {e : List Int32} : Wf G r a i j 0 f t e ↔ Tr G r (sg a i j) e := by
  constructor
  · rintro ⟨gs, d, h1, _, h3, h4⟩
    exact ⟨gs, d, h1, h3, h4⟩
  · rintro ⟨gs, d, h1, h3, h4⟩
    exact ⟨gs, d, h1, fun q hq => by omega, h3, h4⟩
theorem p_fillStretch_52 {N : Nat} (hN : 151 ≤ N) {γ : Nat → Nat → Int32} {G : Gm} (hG : GrOK γ G) {i j : Nat} (hij : i < j) (hj : j ≤ 12) {Q : Nat → Prop} (hQ : ∀ t, Q t → ∀ s, s < 6 → t ≠ 2 * cO s i j ∧ t ≠ 2 * cO s i j + 1) (a : Nat → Int32) (kx : (Nat → Nat → Int32) → (Nat → Nat → Int32) → Option ((Nat → Nat → Int32) × (Nat → Nat → Int32))) :
    ∀ (d q n : Nat) (χ τ : Nat → Nat → Int32) (C : Nat → List Int32) (V : Nat → Prop), q + d = gR G → d < n → χ 2 = a → FS τ C (ar G) V Q → SubOK G χ τ C V Q a i j → (∀ s, s < 6 → CA χ τ C V (cO s i j) (BsQ G q s (sg a i j))) →
      ∃ χ' τ' C' V', FS τ' C' (ar G) V' Q ∧ (∀ s, s < 6 → CA χ' τ' C' V' (cO s i j) (Bs G s (sg a i j))) ∧ FrS i j χ τ C V χ' τ' C' V' ∧ (∀ b, b ≠ 1 → b ≠ 5 → b ≠ 6 → χ' b = χ b) ∧ (∀ t, Q t → C' t = C t) ∧ l_Ch_fillStretch_52 N γ (nI i) (nI j) kx n χ τ (nI q) = kx χ' τ' := by
  have hR := hG.1.2.2.1
  intro d
  induction d with
  | zero =>
    intro q n χ τ C V hq hn h2 hS hB hA
    obtain ⟨m, rfl⟩ : ∃ m, n = m + 1 := ⟨n - 1, by omega⟩
    have : q = gR G := by omega
    subst this
    refine ⟨χ, τ, C, V, hS, fun s hs => (hA s hs).congr (fun e => BsQ_full), FrS.refl _ _ _ _ _ _, fun _ _ _ _ => rfl, fun _ _ => rfl, ?_⟩
    unfold l_Ch_fillStretch_52 f_Ch_fillStretch_52
    rw [hG.2.2.2.1, if_pos (nI_le (Nat.le_refl _) (by omega))]
  | succ d ih =>
    intro q n χ τ C V hq hn h2 hS hB hA
    obtain ⟨m, rfl⟩ : ∃ m, n = m + 1 := ⟨n - 1, by omega⟩
    have hqR : q < gR G := by omega
    have hrs : grs G q < 6 := by
      have h1 := (hG.1.2.2.2.2 q hqR).1
      have h2 := hG.1.1
      omega
    have step : l_Ch_fillStretch_52 N γ (nI i) (nI j) kx (m + 1) χ τ (nI q) = f_Ch_fillStretch_52 N (l_Ch_fillStretch_52 N γ (nI i) (nI j) kx m) kx χ γ τ (nI i) (nI j) (nI q) := rfl
    unfold f_Ch_fillStretch_52 at step
    rw [hG.2.2.2.1, if_neg (nI_ge hqR (by omega))] at step
    rcases g_isUnit hG hqR with ⟨hu, e⟩ | ⟨hu, e⟩
    · rw [e, b1_some, if_neg (by decide), nm_d, nI_1] at step
      obtain ⟨χ', τ', C', V', g1, g2, g3, g4, g5, g6⟩ := ih (q + 1) m χ τ C V (by omega) (by omega) h2 hS hB (fun s hs => (hA s hs).congr (fun e => by
        constructor
        · rintro (h | ⟨r, r1, r2⟩)
          · exact Or.inl h
          · exact Or.inr ⟨r, by omega, r2⟩
        · rintro (h | ⟨r, r1, r2, r3, r4, r5⟩)
          · exact Or.inl h
          · by_cases er : r = q
            · exact absurd (er ▸ hu) r4
            · exact Or.inr ⟨r, by omega, r2, r3, r4, r5⟩))
      exact ⟨χ', τ', C', V', g1, g2, g3, g4, g5, by rw [step]; exact g6⟩
    · have hb0 : bd (gry G q) 0 = 0 := by simp [bd, dvs]
      have h8 := (hG.1.2.2.2.2 q hqR).2.2.1
      obtain ⟨χ1, τ1, C1, V1, o1, o2, o3, o4, o5, _, o7⟩ := p_fit hN hG hqR hu hij hj (fun t ht => hQ t ht _ hrs) a (gry G q).length 9 0 i χ τ C V (fun _ => 0) (fun _ => 0) (BsQ G q (grs G q) (sg a i j)) (by omega) (by omega) (by omega) (by omega) h2 hS hB (by rw [hb0]; intro z hz; omega) (by rw [sg_nil]; simp) (hA _ hrs) (by
        rw [hb0]
        intro z hz hz2
        obtain ⟨gs, dd, _, _, hz⟩ := Wf_0.mp hz
        rcases hz2 with ⟨x, x1, x2, _⟩ | ⟨r, r1, r2, _, _, gs', dd', _, _, hz'⟩
        · rw [hz] at x2
          injection x2 with x2 _
          rw [← x2] at x1
          exact nI_pos (by omega) x1
        · rw [hz] at hz'
          injection hz' with hz' _
          have := nI_inj (by omega) (by omega) hz'
          omega)
      rw [hb0] at o1 o3
      have hA1 : ∀ s, s < 6 → CA χ1 τ1 C1 V1 (cO s i j) (BsQ G (q + 1) s (sg a i j)) := by
        intro s hs
        by_cases es : s = grs G q
        · subst es
          refine o3.congr (fun z => ?_)
          rw [Wf_0]
          constructor
          · rintro ((h | ⟨r, r1, r2⟩) | h)
            · exact Or.inl h
            · exact Or.inr ⟨r, by omega, r2⟩
            · exact Or.inr ⟨q, by omega, hqR, rfl, hu, h⟩
          · rintro (h | ⟨r, r1, r2, r3, r4, r5⟩)
            · exact Or.inl (Or.inl h)
            · by_cases er : r = q
              · subst er
                exact Or.inr r5
              · exact Or.inl (Or.inr ⟨r, by omega, r2, r3, r4, r5⟩)
        · refine ((hA s hs).frame (cO_lt hs hij hj) (fun e => es (cO_inj hs hrs hij hij e).1) o4).congr (fun z => ?_)
          constructor
          · rintro (h | ⟨r, r1, r2⟩)
            · exact Or.inl h
            · exact Or.inr ⟨r, by omega, r2⟩
          · rintro (h | ⟨r, r1, r2, r3, r4, r5⟩)
            · exact Or.inl h
            · by_cases er : r = q
              · subst er
                exact absurd r3.symm es
              · exact Or.inr ⟨r, by omega, r2, r3, r4, r5⟩
      rw [e, b1_some, if_pos rfl, ← nI_0, o1, b2_some, nm_d, nI_1] at step
      obtain ⟨χ', τ', C', V', g1, g2, g3, g4, g5, g6⟩ := ih (q + 1) m χ1 τ1 C1 V1 (by omega) (by omega) (by rw [o5 2 (by decide) (by decide) (by decide)]; exact h2) o2 (hB.frame hrs hij hj o4) hA1
      refine ⟨χ', τ', C', V', g1, g2, (Fr.all hrs o4).trans g3, fun b b1 b5 b6 => by rw [g4 b b1 b5 b6, o5 b b1 b5 b6], fun t ht => by rw [g5 t ht, o7 t ht], ?_⟩
      rw [step]
      exact g6
theorem p_fillStretch {N : Nat} (hN : 151 ≤ N) {γ χ τ : Nat → Nat → Int32} {G : Gm} (hG : GrOK γ G) {i j : Nat} (hij : i < j) (hj : j ≤ 12) {C : Nat → List Int32} {V : Nat → Prop} (hS : FS τ C (ar G) V V) (hV : ∀ t, V t → ∀ s, s < 6 → t ≠ 2 * cO s i j ∧ t ≠ 2 * cO s i j + 1) (hB : SubOK G χ τ C V V (χ 2) i j) (hok : ∀ k, i ≤ k → k < j → okSym (gV G) (χ 2 k)) {us : List Nat} (hU : UsQ G χ (gR G) us) (hC : RcQ G χ (gR G)) :
    ∃ χ' τ' C' V', m_Ch_fillStretch N χ γ τ (nI i) (nI j) = some (χ', τ') ∧ FS τ' C' (ar G) V' V' ∧ (∀ s, s < 6 → CA χ' τ' C' V' (cO s i j) (Sy G s (sg (χ 2) i j))) ∧ FrS i j χ τ C V χ' τ' C' V' ∧ (∀ b, b ≠ 1 → b ≠ 5 → b ≠ 6 → b ≠ 7 → χ' b = χ b) ∧ ∀ t, V t → C' t = C t := by
  have hR := hG.1.2.2.1
  have h20 := hG.1.2.1
  -- empty
  obtain ⟨χ1, τ1, e1, e2, e3, e4, e5, e6⟩ := p_fillStretch_2 (N := N) (γ := γ) hij hj χ τ (fun s_self s_table => f_Ch_fillStretch_38 N s_self γ s_table (nI i) (nI j)) 6 0 N χ τ (by omega) (by omega) (fun _ _ => rfl) (fun _ _ => rfl) (fun _ _ => rfl) (fun _ _ => rfl) (fun t ht => by omega)
  have sam1 : ∀ t, (∀ s, s < 6 → t ≠ 2 * cO s i j ∧ t ≠ 2 * cO s i j + 1) → Sam τ τ1 t := fun t ht => ⟨e4 t ht, by rw [e3 2 (by decide)], by rw [e3 3 (by decide)], fun k _ => by rw [e3 4 (by decide)]⟩
  have fr1 : FrS i j χ τ C V χ1 τ1 C V := ⟨e2, fun t _ ht => ⟨Iff.rfl, rfl, sam1 t ht⟩⟩
  have hS1 : FS τ1 C (ar G) V V := by
    refine ⟨⟨fun t ht => ⟨(hS.1.1 t ht).1, ?_⟩, hS.1.2⟩, hS.2.1, fun t ht => by rw [e3 3 (by decide)]; exact hS.2.2 t ht⟩
    obtain ⟨ps, a1, a2, a3, a4, a5, a6, a7⟩ := (hS.1.1 t ht).2
    refine ⟨ps, ?_, a2, ?_, ?_, ?_, ?_, a7⟩
    · rw [e3 2 (by decide)]; exact a1
    · rw [e3 3 (by decide)]; exact a3
    · rw [e3 4 (by decide)]; exact a4
    · rw [e3 2 (by decide)]; exact a5
    · rw [e4 t (hV t ht)]; exact a6
  have hB1 : SubOK G χ1 τ1 C V V (χ 2) i j := by
    intro s hs i' j' h1 h2 h3 h4
    obtain ⟨q1, q2⟩ := hB s hs i' j' h1 h2 h3 h4
    refine ⟨q1.frameS (cO_lt hs h2 (by omega)) (fun t ht e => ?_) fr1, q2⟩
    obtain ⟨_, x1, x2⟩ := cO_inj hs ht h2 hij e
    exact h4 ⟨x1, x2⟩
  have hA1 : ∀ s, s < 6 → CA χ1 τ1 C V (cO s i j) (fun _ => False) := by
    intro s hs
    obtain ⟨q1, q2, q3⟩ := e5 s hs
    exact ⟨0, [], by rw [q1, nI_0], Cnt.none (fun _ h => h), Or.inl ⟨rfl, q2, q3⟩, Two.nil (fun _ h => h)⟩
  -- a leaf
  have leaf : ∃ χ2 τ2 C2 V2, f_Ch_fillStretch_38 N χ1 γ τ1 (nI i) (nI j) = l_Ch_fillStretch_52 N γ (nI i) (nI j) (fun s_self s_table => f_Ch_fillStretch_90 N s_self γ s_table (nI i) (nI j)) N χ2 τ2 0 ∧ FS τ2 C2 (ar G) V2 V ∧ (∀ s, s < 6 → CA χ2 τ2 C2 V2 (cO s i j) (BsQ G 0 s (sg (χ 2) i j))) ∧ FrS i j χ1 τ1 C V χ2 τ2 C2 V2 ∧ (∀ b, b ≠ 1 → χ2 b = χ1 b) ∧ ∀ t, V t → C2 t = C t := by
    unfold f_Ch_fillStretch_38
    rw [n_sub (by omega)]
    by_cases one : j - i = 1
    · have ej : j = i + 1 := by omega
      subst ej
      rw [if_pos (of_eq_true (c_eq1 one))]
      have esg : sg (χ 2) i (i + 1) = [χ 2 i] := sg_one _ _
      rcases hok i (Nat.le_refl _) (by omega) with ⟨c, hc, ex⟩ | ⟨v, hv, ex⟩
      · -- a constant
        have hnn : ¬ χ1 2 i < 0 := by
          rw [e1 2 (by decide), ex]
          exact nI_pos (by omega)
        refine ⟨χ1, τ1, C, V, by rw [p_addLeaf_no (by omega) hnn, b2_some], hS1, fun s hs => (hA1 s hs).congr (fun e => ?_), FrS.refl _ _ _ _ _ _, fun _ _ => rfl, fun _ _ => rfl⟩
        constructor
        · exact fun h => h.elim
        · rintro (⟨x, x1, _, x3, _⟩ | ⟨r, r1, _⟩)
          · rw [esg] at x3
            injection x3 with x3 _
            rw [← x3, ex] at x1
            exact nI_pos (by omega) x1
          · omega
      · have hs6 : gvs G v < 6 := by
          have h1 := hG.1.2.2.2.1 v hv
          have h2 := hG.1.1
          omega
        obtain ⟨χ2, τ2, C2, V2, o1, o2, o3, o4, o5, o6⟩ := p_addLeaf hN hG hS1 (i := i) (v := v) (by omega) hv (by rw [e1 2 (by decide)]; exact ex) (fun t ht => hV t ht _ hs6) (hA1 _ hs6)
        refine ⟨χ2, τ2, C2, V2, by rw [o1, b2_some], o2, fun s hs => ?_, Fr.all hs6 o4, o5, o6⟩
        by_cases es : s = gvs G v
        · subst es
          refine o3.congr (fun e => ?_)
          constructor
          · intro h
            refine Or.inl ⟨vS v, vS_neg (by omega), h, by rw [esg, ex], ?_⟩
            unfold sX
            rw [vI_vS (by omega)]
          · rintro (⟨x, x1, x2, x3, _⟩ | ⟨r, r1, _⟩)
            · rw [esg, List.cons.injEq] at x3
              rw [x2, ← x3.1, ex]
            · omega
        · refine ((hA1 s hs).frame (cO_lt hs hij hj) (fun e => es (cO_inj hs hs6 hij hij e).1) o4).congr (fun e => ?_)
          constructor
          · exact fun h => h.elim
          · rintro (⟨x, x1, x2, x3, x4⟩ | ⟨r, r1, _⟩)
            · rw [esg, List.cons.injEq] at x3
              rw [← x3.1, ex] at x4
              unfold sX at x4
              rw [vI_vS (by omega)] at x4
              exact es x4.symm
            · omega
    · rw [if_neg (of_eq_false (c_ne1 one (by omega)))]
      refine ⟨χ1, τ1, C, V, rfl, hS1, fun s hs => (hA1 s hs).congr (fun e => ?_), FrS.refl _ _ _ _ _ _, fun _ _ => rfl, fun _ _ => rfl⟩
      constructor
      · exact fun h => h.elim
      · rintro (⟨x, _, _, x3, _⟩ | ⟨r, r1, _⟩)
        · have := congrArg List.length x3
          rw [sg_len] at this
          simp at this
          omega
        · omega
  obtain ⟨χ2, τ2, C2, V2, l1, l2, l3, l4, l5, l6⟩ := leaf
  have hB2 : SubOK G χ2 τ2 C2 V2 V (χ 2) i j := by
    intro s hs i' j' h1 h2 h3 h4
    obtain ⟨q1, q2⟩ := hB1 s hs i' j' h1 h2 h3 h4
    have hc := cO_lt hs h2 (show j' ≤ 12 by omega)
    have hne : ∀ t, t < 6 → cO s i' j' ≠ cO t i j := by
      intro t ht e
      obtain ⟨_, x1, x2⟩ := cO_inj hs ht h2 hij e
      exact h4 ⟨x1, x2⟩
    refine ⟨q1.frameS hc hne l4, fun b hb hv => q2 b hb ?_⟩
    exact ((l4.2 _ (by omega) (fun t ht => ⟨by have := hne t ht; omega, by have := hne t ht; omega⟩)).1).mp hv
  -- the rules
  obtain ⟨χ3, τ3, C3, V3, r1, r2, r3, r4, r5, r6⟩ := p_fillStretch_52 hN hG hij hj hV (χ 2) (fun s_self s_table => f_Ch_fillStretch_90 N s_self γ s_table (nI i) (nI j)) (gR G) 0 N χ2 τ2 C2 V2 (by omega) (by omega) (by rw [l5 2 (by decide), e1 2 (by decide)]) l2 hB2 l3
  have ch3 : ∀ b, b ≠ 1 → b ≠ 5 → b ≠ 6 → χ3 b = χ b := fun b b1 b5 b6 => by rw [r4 b b1 b5 b6, l5 b b1, e1 b b1]
  have fr3 : FrS i j χ τ C V χ3 τ3 C3 V3 := (fr1.trans l4).trans r3
  have start : m_Ch_fillStretch N χ γ τ (nI i) (nI j) = f_Ch_fillStretch_90 N χ3 γ τ3 (nI i) (nI j) := by
    rw [nI_0] at e6 r6
    exact e6.trans (l1.trans r6)
  obtain ⟨u1, u2, u3, u4, u5⟩ := hU
  have h7 : χ3 0 7 = nI us.length := by rw [ch3 0 (by decide) (by decide) (by decide)]; exact u4
  unfold f_Ch_fillStretch_90 at start
  by_cases nu : us.length = 0
  · have hno : ∀ r, ¬ (r < gR G ∧ isU G r) := by
      intro r h
      have := (u3 r).mpr h
      rw [List.length_eq_zero_iff.mp nu] at this
      simp at this
    refine ⟨χ3, τ3, C3, V3, by rw [start, h7, if_pos (of_eq_true (c_le0_t nu))], ⟨r1.1.mono (fun t ht => r1.1.2 t ht) (fun t ht => ht), r1.2⟩, fun s hs => (r2 s hs).congr (fun e => ?_), fr3, fun b b1 b5 b6 _ => ch3 b b1 b5 b6, fun t ht => by rw [r5 t ht, l6 t ht]⟩
    rw [Sy_bu]
    constructor
    · exact fun h => Or.inl h
    · rintro (h | ⟨r, q1, _, q3, _⟩)
      · exact h
      · exact absurd ⟨q1, q3⟩ (hno r)
  · rw [h7, if_neg (of_eq_false (c_le0 (by omega) (by omega)))] at start
    have hU3 : Us G χ3 us := ⟨u1, by omega, u3, h7, fun k hk => by rw [ch3 3 (by decide) (by decide) (by decide)]; exact u5 k hk⟩
    have hW3 : WS χ3 i j (fun s => Bs G s (sg (χ 2) i j)) := by
      intro s hs
      obtain ⟨v, p, w1, w2, _, _⟩ := r2 s hs
      exact ⟨v, w1, w2⟩
    obtain ⟨χ4, A4, x1, x2, x3, x4⟩ := p_addUnitWays (N := N) (by omega) hG hij hj hU3 hW3
    obtain ⟨χ5, y1, y2, y3, y4⟩ := p_markEndless (N := N) (by omega) hG.1 hij hj x2 x3 (fun s hs b hb => by rw [x1.1 4 (by decide) (by decide), ch3 4 (by decide) (by decide) (by decide)]; exact hC s hs b hb)
    have hP : ∃ P : Nat → List (List Int32), ∀ s, s < 6 → Pair τ3 C3 V3 (cO s i j) (P s) ∧ Two (Bs G s (sg (χ 2) i j)) (P s) := by
      have key : ∀ s, ∃ p, s < 6 → Pair τ3 C3 V3 (cO s i j) p ∧ Two (Bs G s (sg (χ 2) i j)) p := by
        intro s
        by_cases hs : s < 6
        · obtain ⟨v, p, _, _, w3, w4⟩ := r2 s hs
          exact ⟨p, fun _ => ⟨w3, w4⟩⟩
        · exact ⟨[], fun h => absurd h hs⟩
      exact ⟨fun s => Classical.choose (key s), fun s hs => Classical.choose_spec (key s) hs⟩
    obtain ⟨P, hP⟩ := hP
    obtain ⟨τ5, C5, V5, P5, z1, z2, z3, z4, z5⟩ := p_addUnitTrees hN (χ := χ5) hG hij hj u1 (by omega) u3 (by rw [y1 0 (by decide), x1.1 0 (by decide) (by decide)]; exact h7) (fun k hk => by rw [y1 3 (by decide), x1.1 3 (by decide) (by decide)]; exact hU3.2.2.2.2 k hk) (y := sg (χ 2) i j) (by rw [sg_len]; omega) hV r1 (fun s hs => (hP s hs).1) (fun s hs => (hP s hs).2)
    refine ⟨χ5, τ5, C5, V5, ?_, z1, fun s hs => ?_, ?_, ?_, fun t ht => by rw [z4 t ht, r5 t ht, l6 t ht]⟩
    · rw [start, x4, b1_some, y4, b1_some, z5, b1_some]
    · obtain ⟨v, w1, w2⟩ := y3 s hs
      exact ⟨v, P5 s, w1, w2, (z2 s hs).1, (z2 s hs).2⟩
    · refine fr3.trans (FrS.trans (χ' := χ5) (τ' := τ3) (C' := C3) (V' := V3) ⟨fun k hk => by rw [y2 k hk, x1.2 k hk], fun t _ _ => ⟨Iff.rfl, rfl, Sam.refl _ _⟩⟩ z3)
    · intro b b1 b5 b6 b7
      rw [y1 b b1, x1.1 b b1 b7, ch3 b b1 b5 b6]
