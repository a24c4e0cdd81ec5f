def RcQ (G : Gm) (χ : Nat → Nat → Int32) (q : Nat) : Prop := ∀ s, s < 6 → ∀ b, b < 6 → (bit (χ 4 s) b ↔ Rq G q s b)
def UsQ (G : Gm) (χ : Nat → Nat → Int32) (q : Nat) (us : List Nat) : Prop := us.Nodup ∧ us.length ≤ q ∧ (∀ r, r ∈ us ↔ r < q ∧ isU G r) ∧ χ 0 7 = nI us.length ∧ ∀ k, k < us.length → χ 3 k = nI (us.getD k 0)
theorem p_seeRules_5 {N : Nat} (hN : 7 ≤ N) {γ : Nat → Nat → Int32} {G : Gm} (hG : GrOK γ G) (kx : (Nat → Nat → Int32) → Option (Nat → Nat → Int32)) : ∀ (d q n : Nat) (χ : Nat → Nat → Int32) (us : List Nat), q + d = gR G → d < n → UsQ G χ q us → RcQ G χ q → ∃ χ' us', UsQ G χ' (gR G) us' ∧ RcQ G χ' (gR G) ∧ (∀ b, b ≠ 0 → b ≠ 3 → b ≠ 4 → χ' b = χ b) ∧ (∀ k, k ≠ 7 → χ' 0 k = χ 0 k) ∧ l_Ch_seeRules_5 N γ kx n χ (nI q) = kx χ' := by
  have hR := hG.1.2.2.1
  intro d
  induction d with
  | zero =>
    intro q n χ us hq hn hU hC
    obtain ⟨m, rfl⟩ : ∃ m, n = m + 1 := ⟨n - 1, by omega⟩
    have : q = gR G := by omega
    subst this
    refine ⟨χ, us, hU, hC, fun _ _ _ _ => rfl, fun _ _ => rfl, ?_⟩
    unfold l_Ch_seeRules_5 f_Ch_seeRules_5
    rw [hG.2.2.2.1, if_pos (nI_le (Nat.le_refl _) (by omega))]
  | succ d ih =>
    intro q n χ us hq hn hU hC
    obtain ⟨m, rfl⟩ : ∃ m, n = m + 1 := ⟨n - 1, by omega⟩
    have hqR : q < gR G := by omega
    have step : l_Ch_seeRules_5 N γ kx (m + 1) χ (nI q) = f_Ch_seeRules_5 N (l_Ch_seeRules_5 N γ kx m) kx χ γ (nI q) := rfl
    unfold f_Ch_seeRules_5 at step
    rw [hG.2.2.2.1, if_neg (nI_ge hqR (by omega))] at step
    obtain ⟨u1, u2, u3, u4, u5⟩ := hU
    rcases g_isUnit hG hqR with ⟨hu, e⟩ | ⟨hu, e⟩
    · rw [e, b1_some, if_neg (by decide), u4, l_30, if_neg (nI_ge (by omega) (by omega)), ck_n (by omega) (by omega), nm_d, nI_clamp (by omega), nm_d, st2_aj _ _ _ _ (by decide), u4, nI_1, g_sort_r hG hqR, b1_some] at step
      have h1 : 0 < (dv (gry G q)).length := by
        rw [((isU_iff q).mp hu).2]
        omega
      have e0 := g_slotSort hG hqR h1
      rw [uS_slot hu, nI_0] at e0
      have hrs : grs G q < 6 := by
        have h1 := (hG.1.2.2.2.2 q hqR).1
        have h2 := hG.1.1
        omega
      obtain ⟨χ1, g1, g2, g3⟩ := p_reachFurther (N := N) hN (χ := st2 (st2 χ 3 us.length (nI q)) 0 7 (nI (us.length + 1))) hrs (uS_lt6 hG.1 hqR hu)
      rw [e0, b1_some, g3, b1_some, nm_d, nI_1] at step
      obtain ⟨χ', us', x1, x2, x3, x4, x5⟩ := ih (q + 1) m χ1 (us ++ [q]) (by omega) (by omega)
        ⟨by
          rw [List.nodup_append]
          refine ⟨u1, by simp, fun a ha b hb e => ?_⟩
          simp only [List.mem_cons, List.not_mem_nil, or_false] at hb
          have := ((u3 a).mp ha).1
          omega, by simp; omega, fun r => by
          rw [List.mem_append, u3]
          simp only [List.mem_cons, List.not_mem_nil, or_false]
          constructor
          · rintro (⟨h1, h2⟩ | rfl)
            · exact ⟨by omega, h2⟩
            · exact ⟨by omega, hu⟩
          · rintro ⟨h1, h2⟩
            by_cases e : r = q
            · exact Or.inr e
            · exact Or.inl ⟨by omega, h2⟩, by rw [g1 0 (by decide), st2_s]; simp, fun k hk => by
          simp only [List.length_append, List.length_cons, List.length_nil] at hk
          rw [g1 3 (by decide), st2_aj _ _ _ _ (by decide)]
          by_cases e : k = us.length
          · subst e
            rw [st2_s, getD_snoc_eq]
          · rw [st2_k _ _ _ e, getD_snoc_lt (by omega)]
            exact u5 k (by omega)⟩
        (fun s hs b hb => by
          rw [g2 s hs b hb, st2_aj _ _ _ _ (by decide), st2_aj _ _ _ _ (by decide), st2_aj _ _ _ _ (by decide), st2_aj _ _ _ _ (by decide), hC s hs b hb, hC s hs _ hrs, hC _ (uS_lt6 hG.1 hqR hu) b hb, Rq_step hqR hu])
      refine ⟨χ', us', x1, x2, fun b b0 b3 b4 => by rw [x3 b b0 b3 b4, g1 b b4, st2_a _ _ _ b0, st2_a _ _ _ b3], fun k hk => by rw [x4 k hk, g1 0 (by decide), st2_k _ _ _ hk, st2_aj _ _ _ _ (by decide)], ?_⟩
      rw [step]
      exact x5
    · rw [e, b1_some, if_pos rfl, nm_d, nI_1] at step
      obtain ⟨χ', us', x1, x2, x3, x4, x5⟩ := ih (q + 1) m χ us (by omega) (by omega) ⟨u1, by omega, fun r => by
          rw [u3]
          constructor
          · rintro ⟨h1, h2⟩
            exact ⟨by omega, h2⟩
          · rintro ⟨h1, h2⟩
            by_cases e : r = q
            · exact absurd (e ▸ h2) hu
            · exact ⟨by omega, h2⟩, u4, u5⟩ (fun s hs b hb => by rw [hC s hs b hb, Rq_skip hu])
      refine ⟨χ', us', x1, x2, x3, x4, ?_⟩
      rw [step]
      exact x5
theorem p_seeRules {N : Nat} (hN : 31 ≤ N) {γ χ : Nat → Nat → Int32} {G : Gm} (hG : GrOK γ G) {q : Nat} {us : List Nat} (hq : q ≤ gR G) (h5 : χ 0 5 = nI q) (hU : UsQ G χ q us) (hC : RcQ G χ q) : ∃ χ' us', UsQ G χ' (gR G) us' ∧ RcQ G χ' (gR G) ∧ (∀ b, b ≠ 0 → b ≠ 3 → b ≠ 4 → χ' b = χ b) ∧ (∀ k, k ≠ 7 → k ≠ 5 → χ' 0 k = χ 0 k) ∧ χ' 0 5 = nI (gR G) ∧ m_Ch_seeRules N χ γ = some χ' := by
  have hR := hG.1.2.2.1
  obtain ⟨χ1, us', x1, x2, x3, x4, x5⟩ := p_seeRules_5 (N := N) (by omega) hG (fun s_self => f_Ch_seeRules_83 N s_self γ) (gR G - q) q N χ us (by omega) (by omega) hU hC
  obtain ⟨y1, y2, y3, y4, y5⟩ := x1
  refine ⟨st2 χ1 0 5 (nI (gR G)), us', ⟨y1, y2, y3, by rw [st2_k _ _ _ (by decide)]; exact y4, fun k hk => by rw [st2_aj _ _ _ _ (by decide)]; exact y5 k hk⟩, fun s hs b hb => by rw [st2_aj _ _ _ _ (by decide)]; exact x2 s hs b hb, fun b b0 b3 b4 => by rw [st2_a _ _ _ b0]; exact x3 b b0 b3 b4, fun k k7 k5 => by rw [st2_k _ _ _ k5]; exact x4 k k7, st2_s _ _ _ _, ?_⟩
  unfold m_Ch_seeRules f_Ch_seeRules_0
  rw [nm_d, h5, x5]
  unfold f_Ch_seeRules_83
  rw [nm_d, hG.2.2.2.1]
/-! endless many -/
theorem p_markEndless_33 {N : Nat} {i j : Nat} (hij : i < j) (hj : j ≤ 12) {b : Nat} (χ0 : Nat → Nat → Int32) (kx : (Nat → Nat → Int32) → Option (Nat → Nat → Int32)) : ∀ (d s n : Nat) (χ : Nat → Nat → Int32), s + d = 6 → d < n → (∀ q, q ≠ 1 → χ q = χ0 q) → (∀ k, (∀ t, t < 6 → k ≠ cO t i j) → χ 1 k = χ0 1 k) → (∀ t, t < 6 → s ≤ t → χ 1 (cO t i j) = χ0 1 (cO t i j)) → (∀ t, t < s → (bit (χ0 4 t) b ∧ χ 1 (cO t i j) = nI 1000002) ∨ (¬ bit (χ0 4 t) b ∧ χ 1 (cO t i j) = χ0 1 (cO t i j))) →
    ∃ χ', (∀ q, q ≠ 1 → χ' q = χ0 q) ∧ (∀ k, (∀ t, t < 6 → k ≠ cO t i j) → χ' 1 k = χ0 1 k) ∧ (∀ t, t < 6 → (bit (χ0 4 t) b ∧ χ' 1 (cO t i j) = nI 1000002) ∨ (¬ bit (χ0 4 t) b ∧ χ' 1 (cO t i j) = χ0 1 (cO t i j))) ∧ l_Ch_markEndless_33 N (nI i) (nI j) (nI b) kx n χ (nI s) = kx χ' := by
  intro d
  induction d with
  | zero =>
    intro s n χ hs hn h1 h2 h3 h4
    obtain ⟨m, rfl⟩ : ∃ m, n = m + 1 := ⟨n - 1, by omega⟩
    have : s = 6 := by omega
    subst this
    refine ⟨χ, h1, h2, h4, ?_⟩
    unfold l_Ch_markEndless_33 f_Ch_markEndless_33
    rw [l_6, if_pos (nI_le (Nat.le_refl _) (by omega))]
  | succ d ih =>
    intro s n χ hs hn h1 h2 h3 h4
    obtain ⟨m, rfl⟩ : ∃ m, n = m + 1 := ⟨n - 1, by omega⟩
    have hs6 : s < 6 := by omega
    have step : l_Ch_markEndless_33 N (nI i) (nI j) (nI b) kx (m + 1) χ (nI s) = f_Ch_markEndless_33 N (l_Ch_markEndless_33 N (nI i) (nI j) (nI b) kx m) kx χ (nI i) (nI j) (nI b) (nI s) := rfl
    unfold f_Ch_markEndless_33 at step
    rw [l_6, if_neg (nI_ge hs6 (by omega))] at step
    rcases p_reaches (χ := χ) (b := b) hs6 with ⟨c, e⟩ | ⟨c, e⟩
    · rw [h1 4 (by decide)] at c
      rw [e, b1_some, if_neg (by decide), p_cellOf hs6 hij hj, b1_some, l_1000002, p_setWays (cO_lt hs6 hij hj), b1_some, nm_d, nI_1] at step
      obtain ⟨χ', g1, g2, g3, g4⟩ := ih (s + 1) m (st2 χ 1 (cO s i j) (nI 1000002)) (by omega) (by omega) (fun q hq => by rw [st2_a _ _ _ hq]; exact h1 q hq) (fun k hk => by rw [st2_k _ _ _ (hk s hs6)]; exact h2 k hk)
        (fun t ht hst => by rw [st2_k _ _ _ (fun q => by have := (cO_inj ht hs6 hij hij q).1; omega)]; exact h3 t ht (by omega))
        (fun t ht => by
          by_cases e' : t = s
          · subst e'
            exact Or.inl ⟨c, st2_s _ _ _ _⟩
          · rw [st2_k _ _ _ (fun q => e' (cO_inj (by omega) hs6 hij hij q).1)]
            exact h4 t (by omega))
      exact ⟨χ', g1, g2, g3, by rw [step]; exact g4⟩
    · rw [h1 4 (by decide)] at c
      rw [e, b1_some, if_pos rfl, nm_d, nI_1] at step
      obtain ⟨χ', g1, g2, g3, g4⟩ := ih (s + 1) m χ (by omega) (by omega) h1 h2 (fun t ht hst => h3 t ht (by omega))
        (fun t ht => by
          by_cases e' : t = s
          · subst e'
            exact Or.inr ⟨c, h3 t hs6 (Nat.le_refl _)⟩
          · exact h4 t (by omega))
      exact ⟨χ', g1, g2, g3, by rw [step]; exact g4⟩
def Mk (G : Gm) (y : List Int32) (b s : Nat) : Prop := ∃ q, q < b ∧ Rq G (gR G) q q ∧ (∃ c, Sy G q y c) ∧ Rq G (gR G) s q
theorem Rq_ex {G : Gm} {s q : Nat} {y : List Int32} (h : Rq G (gR G) s q) (k : ∃ c, Sy G q y c) : ∃ c, Sy G s y c := by
  obtain ⟨u, _, _, h3, h4⟩ := h
  obtain ⟨c, hc⟩ := k
  exact ⟨_, Sy_chain u s h3 (h4.symm ▸ hc)⟩
theorem p_markEndless_2 {N : Nat} (hN : 7 ≤ N) {G : Gm} (hG : GOK G) {i j : Nat} (hij : i < j) (hj : j ≤ 12) {y : List Int32} {A : Nat → List Int32 → Prop} (hA : RI G y 6 0 A) (χ0 : Nat → Nat → Int32) (hC : RcQ G χ0 (gR G)) (kx : (Nat → Nat → Int32) → Option (Nat → Nat → Int32)) : ∀ (d b n : Nat) (χ : Nat → Nat → Int32), b + d = 6 → d < n → (∀ q, q ≠ 1 → χ q = χ0 q) → (∀ k, (∀ t, t < 6 → k ≠ cO t i j) → χ 1 k = χ0 1 k) → (∀ s, s < 6 → ∃ v, χ 1 (cO s i j) = nI v ∧ ((Mk G y b s ∧ v = 1000002) ∨ (¬ Mk G y b s ∧ Cnt (A s) v))) →
    ∃ χ', (∀ q, q ≠ 1 → χ' q = χ0 q) ∧ (∀ k, (∀ t, t < 6 → k ≠ cO t i j) → χ' 1 k = χ0 1 k) ∧ (∀ s, s < 6 → ∃ v, χ' 1 (cO s i j) = nI v ∧ ((Mk G y 6 s ∧ v = 1000002) ∨ (¬ Mk G y 6 s ∧ Cnt (A s) v))) ∧ l_Ch_markEndless_2 N (nI i) (nI j) kx n χ (nI b) = kx χ' := by
  intro d
  induction d with
  | zero =>
    intro b n χ hb hn h1 h2 h3
    obtain ⟨m, rfl⟩ : ∃ m, n = m + 1 := ⟨n - 1, by omega⟩
    have : b = 6 := by omega
    subst this
    refine ⟨χ, h1, h2, h3, ?_⟩
    unfold l_Ch_markEndless_2 f_Ch_markEndless_2
    rw [l_6, if_pos (nI_le (Nat.le_refl _) (by omega))]
  | succ d ih =>
    intro b n χ hb hn h1 h2 h3
    obtain ⟨m, rfl⟩ : ∃ m, n = m + 1 := ⟨n - 1, by omega⟩
    have hb6 : b < 6 := by omega
    have step : l_Ch_markEndless_2 N (nI i) (nI j) kx (m + 1) χ (nI b) = f_Ch_markEndless_2 N (l_Ch_markEndless_2 N (nI i) (nI j) kx m) kx χ (nI i) (nI j) (nI b) := rfl
    unfold f_Ch_markEndless_2 f_Ch_markEndless_69 at step
    rw [l_6, if_neg (nI_ge hb6 (by omega)), nm_d, nI_1] at step
    obtain ⟨vb, w1, w2⟩ := h3 b hb6
    have hvb : vb < 2 ^ 31 := by
      rcases w2 with ⟨_, w2⟩ | ⟨_, w2⟩
      · omega
      · have := w2.le
        omega
    have hzero : vb = 0 ↔ ∀ c, ¬ Sy G b y c := by
      rcases w2 with ⟨⟨q, _, _, q3, q4⟩, w2⟩ | ⟨_, w2⟩
      · constructor
        · omega
        · intro h
          obtain ⟨c, hc⟩ := Rq_ex q4 q3
          exact absurd hc (h c)
      · rw [w2.zero]
        constructor
        · intro h c hc
          obtain ⟨d', hd'⟩ := Sy_ex5 hG hb6 hc
          exact h d' ((hA b hb6).1 d' (Ua_mono (by rw [if_neg (by omega)]; omega) hd'))
        · intro h c hc
          exact h c ((hA b hb6).2 c hc)
    -- nothing to mark
    have skip : ¬ (Rq G (gR G) b b ∧ ∃ c, Sy G b y c) → (l_Ch_markEndless_2 N (nI i) (nI j) kx (m + 1) χ (nI b) = l_Ch_markEndless_2 N (nI i) (nI j) kx m χ (nI (b + 1))) → ∃ χ', (∀ q, q ≠ 1 → χ' q = χ0 q) ∧ (∀ k, (∀ t, t < 6 → k ≠ cO t i j) → χ' 1 k = χ0 1 k) ∧ (∀ s, s < 6 → ∃ v, χ' 1 (cO s i j) = nI v ∧ ((Mk G y 6 s ∧ v = 1000002) ∨ (¬ Mk G y 6 s ∧ Cnt (A s) v))) ∧ l_Ch_markEndless_2 N (nI i) (nI j) kx (m + 1) χ (nI b) = kx χ' := by
      intro hno he
      have mk : ∀ s, Mk G y (b + 1) s ↔ Mk G y b s := by
        intro s
        constructor
        · rintro ⟨q, q1, q2, q3, q4⟩
          by_cases e : q = b
          · subst e
            exact absurd ⟨q2, q3⟩ hno
          · exact ⟨q, by omega, q2, q3, q4⟩
        · rintro ⟨q, q1, q2⟩
          exact ⟨q, by omega, q2⟩
      obtain ⟨χ', g1, g2, g3, g4⟩ := ih (b + 1) m χ (by omega) (by omega) h1 h2 (fun s hs => by
        obtain ⟨v, x1, x2⟩ := h3 s hs
        exact ⟨v, x1, by rw [mk s]; exact x2⟩)
      exact ⟨χ', g1, g2, g3, by rw [he]; exact g4⟩
    rcases p_reaches (χ := χ) (b := b) hb6 with ⟨c, e⟩ | ⟨c, e⟩
    · rw [h1 4 (by decide), hC b hb6 b hb6] at c
      rw [e, b1_some, if_neg (by decide), p_waysOf hb6 hij hj, b1_some, w1] at step
      by_cases z : vb = 0
      · refine skip (fun h => ?_) ?_
        · obtain ⟨_, x, hx⟩ := h
          exact hzero.mp z x hx
        · rw [step, if_pos (of_eq_true (c_eq0 z))]
      · have hex : ∃ x, Sy G b y x := by
          apply Classical.byContradiction
          intro hn'
          exact z (hzero.mpr (fun x hx => hn' ⟨x, hx⟩))
        rw [if_neg (nI_ne0 (by omega) hvb)] at step
        obtain ⟨χ1, x1, x2, x3, x4⟩ := p_markEndless_33 (N := N) hij hj (b := b) χ (fun s_self => nm (nI (b + 1)) fun v3_1 => l_Ch_markEndless_2 N (nI i) (nI j) kx m s_self v3_1) 6 0 N χ (by omega) (by omega) (fun _ _ => rfl) (fun _ _ => rfl) (fun _ _ _ => rfl) (fun t ht => by omega)
        obtain ⟨χ', g1, g2, g3, g4⟩ := ih (b + 1) m χ1 (by omega) (by omega) (fun q hq => by rw [x1 q hq, h1 q hq]) (fun k hk => by rw [x2 k hk, h2 k hk]) (fun s hs => by
          obtain ⟨v, y1, y2⟩ := h3 s hs
          rcases x3 s hs with ⟨z1, z2⟩ | ⟨z1, z2⟩
          · refine ⟨1000002, z2, Or.inl ⟨⟨b, by omega, c, hex, ?_⟩, rfl⟩⟩
            rw [h1 4 (by decide), hC s hs b hb6] at z1
            exact z1
          · refine ⟨v, by rw [z2]; exact y1, ?_⟩
            rw [h1 4 (by decide), hC s hs b hb6] at z1
            have mk : Mk G y (b + 1) s ↔ Mk G y b s := by
              constructor
              · rintro ⟨q, q1, q2, q3, q4⟩
                by_cases e : q = b
                · subst e
                  exact absurd q4 z1
                · exact ⟨q, by omega, q2, q3, q4⟩
              · rintro ⟨q, q1, q2⟩
                exact ⟨q, by omega, q2⟩
            rw [mk]
            exact y2)
        refine ⟨χ', g1, g2, g3, ?_⟩
        rw [step, ← nI_0]
        refine x4.trans ?_
        rw [nm_d]
        exact g4
    · rw [h1 4 (by decide), hC b hb6 b hb6] at c
      refine skip (fun h => c h.1) ?_
      rw [step, e, b1_some, if_pos rfl]
theorem p_markEndless {N : Nat} (hN : 7 ≤ N) {G : Gm} (hG : GOK G) {i j : Nat} (hij : i < j) (hj : j ≤ 12) {y : List Int32} {A : Nat → List Int32 → Prop} {χ : Nat → Nat → Int32} (hW : WS χ i j A) (hA : RI G y 6 0 A) (hC : RcQ G χ (gR G)) : ∃ χ', (∀ q, q ≠ 1 → χ' q = χ q) ∧ (∀ k, (∀ t, t < 6 → k ≠ cO t i j) → χ' 1 k = χ 1 k) ∧ WS χ' i j (fun s => Sy G s y) ∧ m_Ch_markEndless N χ (nI i) (nI j) = some χ' := by
  obtain ⟨χ', g1, g2, g3, g4⟩ := p_markEndless_2 hN hG hij hj hA χ hC (fun s_self => f_Ch_markEndless_75 N s_self) 6 0 N χ (by omega) (by omega) (fun _ _ => rfl) (fun _ _ => rfl) (fun s hs => by
    obtain ⟨v, w1, w2⟩ := hW s hs
    exact ⟨v, w1, Or.inr ⟨fun ⟨q, q1, _⟩ => by omega, w2⟩⟩)
  refine ⟨χ', g1, g2, fun s hs => ?_, ?_⟩
  · obtain ⟨v, x1, x2⟩ := g3 s hs
    refine ⟨v, x1, ?_⟩
    rcases x2 with ⟨⟨q, _, q2, q3, q4⟩, rfl⟩ | ⟨hn, x2⟩
    · obtain ⟨a, _, a3, a4⟩ := Rq_full.mp q4
      obtain ⟨b, b1, b3, b4⟩ := Rq_full.mp q2
      refine Cnt.inf (Loop_inf ⟨a, b, a3, by rw [a4]; exact b3, by rw [a4]; exact b4, b1, by rw [a4]; exact q3⟩)
    · refine x2.congr (fun c => ⟨fun hc => (hA s hs).2 c hc, fun hc => ?_⟩)
      refine (hA s hs).1 c (Ua_mono (show 5 ≤ _ by rw [if_neg (by omega)]; omega) (Loop_no hG hs ?_ hc))
      rintro ⟨a, b, a1, a2, a3, a4, a5⟩
      apply hn
      have hqs : pe G s a < 6 := pe_lt hG a s hs a1
      have hcyc : Rq G (gR G) (pe G s a) (pe G s a) := Rq_full.mpr ⟨b, a4, a2, a3⟩
      refine ⟨pe G s a, hqs, hcyc, a5, ?_⟩
      by_cases ea : a = []
      · subst ea
        exact hcyc
      · exact Rq_full.mpr ⟨a, ea, a1, rfl⟩
  · unfold m_Ch_markEndless f_Ch_markEndless_0
    rw [← nI_0]
    exact g4
