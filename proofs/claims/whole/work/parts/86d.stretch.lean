/-! one stretch, in the model -/
def Oc (i j c : Nat) : Prop := ∀ s, s < 6 → c ≠ mO s i j
def Fs (i j : Nat) (μ μ' : Nat → Nat → Int32) : Prop := (∀ b, b ≠ 0 → (b < 7 ∨ 17 < b) → μ' b = μ b) ∧ (∀ k, k ≠ 19 → k ≠ 25 → k ≠ 26 → μ' 0 k = μ 0 k) ∧ ∀ c, Oc i j c → μ' 7 c = μ 7 c ∧ μ' 8 (2 * c) = μ 8 (2 * c) ∧ μ' 8 (2 * c + 1) = μ 8 (2 * c + 1) ∧ ∀ k, k < 400 → μ' 9 (400 * c + k) = μ 9 (400 * c + k)
theorem Fs.refl (i j : Nat) (μ : Nat → Nat → Int32) : Fs i j μ μ := ⟨fun _ _ _ => rfl, fun _ _ _ _ => rfl, fun _ _ => ⟨rfl, rfl, rfl, fun _ _ => rfl⟩⟩
theorem Fs.trans {i j : Nat} {μ μ' μ'' : Nat → Nat → Int32} (h : Fs i j μ μ') (k : Fs i j μ' μ'') : Fs i j μ μ'' := by
  refine ⟨fun b b0 hb => by rw [k.1 b b0 hb, h.1 b b0 hb], fun z z1 z2 z3 => by rw [k.2.1 z z1 z2 z3, h.2.1 z z1 z2 z3], fun c hc => ?_⟩
  obtain ⟨a1, a2, a3, a4⟩ := h.2.2 c hc
  obtain ⟨b1, b2, b3, b4⟩ := k.2.2 c hc
  exact ⟨by rw [b1, a1], by rw [b2, a2], by rw [b3, a3], fun z hz => by rw [b4 z hz, a4 z hz]⟩
theorem Fz.fs {i j s0 : Nat} (hs : s0 < 6) {μ μ' : Nat → Nat → Int32} (h : Fz (mO s0 i j) s0 μ μ') : Fs i j μ μ' := by
  refine ⟨fun b b0 hb => h.1 b b0 (by omega), h.2.1, fun c hc => ?_⟩
  have := hc s0 hs
  exact ⟨by rw [h.1 7 (by decide) (by omega)], h.2.2.2.1 _ (by omega) (by omega), h.2.2.2.1 _ (by omega) (by omega), fun k hk => h.2.2.2.2 _ (fun z hz => by omega)⟩
theorem MP.fs {i j : Nat} {μ μ' : Nat → Nat → Int32} {c : Nat} {p : List (List Int32)} (h : MP μ c p) (k : Fs i j μ μ') (hn : Oc i j c) : MP μ' c p := by
  obtain ⟨h1, h2, ⟨a1, a2, a3⟩, ⟨b1, b2, b3⟩⟩ := h
  obtain ⟨_, k2, k3, k4⟩ := k.2.2 c hn
  refine ⟨h1, h2, ⟨by rw [k2]; exact a1, a2, fun q hq => ?_⟩, ⟨by rw [k3]; exact b1, b2, fun q hq => ?_⟩⟩
  · have := k4 q (by omega)
    rw [show 400 * c + q = 200 * (2 * c) + q by omega] at this
    rw [this]
    exact a3 q hq
  · have := k4 (200 + q) (by omega)
    rw [show 400 * c + (200 + q) = 200 * (2 * c + 1) + q by omega] at this
    rw [this]
    exact b3 q hq
theorem MF.fs {i j : Nat} {μ μ' : Nat → Nat → Int32} {c : Nat} {A : List Int32 → Prop} (h : MF μ c A) (k : Fs i j μ μ') (hn : Oc i j c) : MF μ' c A := by
  obtain ⟨v, p, h1, h2, h3, h4⟩ := h
  exact ⟨v, p, by rw [(k.2.2 c hn).1]; exact h1, h2, h3.fs k hn, h4⟩
theorem MdG.fs {i j : Nat} {μ μ' : Nat → Nat → Int32} {G : Gm} (h : MdG μ G) (k : Fs i j μ μ') : MdG μ' G :=
  h.fq (fun z hz => k.2.1 z (by omega) (by omega) (by omega)) (fun b hb => k.1 b (by omega) (by omega))
theorem CmOK.of {μ μ' : Nat → Nat → Int32} {G : Gm} (h : CmOK μ G) (e : μ' 18 = μ 18) : CmOK μ' G := by
  unfold CmOK cm
  rw [e]
  exact h
theorem Oc_sub {s i j i' j' : Nat} (hij : i < j) (hj : j ≤ 12) (h1 : i' < j') (h2 : j' ≤ 12) (h : ¬ (i' = i ∧ j' = j)) : Oc i j (mO s i' j') := by
  intro s' _ e
  have := mO_inj (by omega) (by omega) (by omega) hj e
  omega
theorem q_str2 {N : Nat} {i j : Nat} (hij : i < j) (hj : j ≤ 12) (μ0 : Nat → Nat → Int32) (kx : (Nat → Nat → Int32) → Option (Nat → Nat → Int32)) : ∀ (d s n : Nat) (μ : Nat → Nat → Int32), s + d = 6 → d < n → (∀ b, b ≠ 8 → b ≠ 16 → μ b = μ0 b) → (∀ z, (∀ t, t < 6 → z ≠ 2 * mO t i j ∧ z ≠ 2 * mO t i j + 1) → μ 8 z = μ0 8 z) → (∀ t, t < s → μ 16 t = 0 ∧ μ 8 (2 * mO t i j) = 0 ∧ μ 8 (2 * mO t i j + 1) = 0) → ∃ μ', (∀ b, b ≠ 8 → b ≠ 16 → μ' b = μ0 b) ∧ (∀ z, (∀ t, t < 6 → z ≠ 2 * mO t i j ∧ z ≠ 2 * mO t i j + 1) → μ' 8 z = μ0 8 z) ∧ (∀ t, t < 6 → μ' 16 t = 0 ∧ μ' 8 (2 * mO t i j) = 0 ∧ μ' 8 (2 * mO t i j + 1) = 0) ∧ l_Md_takeStretch_2 N (nI i) (nI j) kx n μ (nI s) = kx μ' := by
  intro d
  induction d with
  | zero =>
    intro s n μ hs hn h1 h2 h3
    obtain ⟨n, rfl⟩ : ∃ m, n = m + 1 := ⟨n - 1, by omega⟩
    have : s = 6 := by omega
    subst this
    refine ⟨μ, h1, h2, h3, ?_⟩
    unfold l_Md_takeStretch_2 f_Md_takeStretch_2
    rw [l_6, if_pos (nI_le (Nat.le_refl _) (by omega))]
  | succ d ih =>
    intro s n μ hs hn h1 h2 h3
    obtain ⟨n, rfl⟩ : ∃ m, n = m + 1 := ⟨n - 1, by omega⟩
    have hs6 : s < 6 := by omega
    have hc := mO_lt hs6 (show i < 12 by omega) hj
    obtain ⟨μ', g1, g2, g3, g4⟩ := ih (s + 1) n (st2 (st2 (st2 μ 16 s 0) 8 (2 * mO s i j) 0) 8 (2 * mO s i j + 1) 0) (by omega) (by omega) (fun b b8 b16 => by rw [st2_a _ _ _ b8, st2_a _ _ _ b8, st2_a _ _ _ b16]; exact h1 b b8 b16) (fun z hz => by rw [st2_k _ _ _ (hz s hs6).2, st2_k _ _ _ (hz s hs6).1, st2_aj _ _ _ _ (by decide)]; exact h2 z hz) (fun t ht => by
      by_cases e : t = s
      · subst e
        exact ⟨by rw [st2_aj _ _ _ _ (by decide), st2_aj _ _ _ _ (by decide), st2_s], by rw [st2_k _ _ _ (by omega), st2_s], st2_s _ _ _ _⟩
      · have hne : mO t i j ≠ mO s i j := fun q => e (mO_inj (by omega) (by omega) hj hj q).1
        obtain ⟨a1, a2, a3⟩ := h3 t (by omega)
        refine ⟨by rw [st2_aj _ _ _ _ (by decide), st2_aj _ _ _ _ (by decide), st2_k _ _ _ e]; exact a1, by rw [st2_k _ _ _ (by omega), st2_k _ _ _ (by omega), st2_aj _ _ _ _ (by decide)]; exact a2, by rw [st2_k _ _ _ (by omega), st2_k _ _ _ (by omega), st2_aj _ _ _ _ (by decide)]; exact a3⟩)
    refine ⟨μ', g1, g2, g3, ?_⟩
    unfold l_Md_takeStretch_2 f_Md_takeStretch_2
    rw [l_6, if_neg (nI_ge hs6 (by omega)), ck_n hs6 (by omega), nm_d, nI_clamp (by omega), q_cellOf, b1_some, l_2, pk_mul, ck_n (by omega) (by omega), nm_d, nI_clamp (by omega), b1_some, pk_mul, nI_1, ck_n (by omega) (by omega), nm_d, nI_clamp (by omega), nm_d, nI_1]
    exact g4
theorem q_str116 {N : Nat} (hN : 2000 ≤ N) {G : Gm} {i j : Nat} (hij : i < j) (hj : j ≤ 12) (a : Nat → Int32) (kx : (Nat → Nat → Int32) → Option (Nat → Nat → Int32)) : ∀ (d q n : Nat) (μ : Nat → Nat → Int32), q + d = gR G → d < n → MdG μ G → μ 5 = a → (∀ s, s < gS G → ∀ i' j', i' < j' → j' ≤ j → j' - i' < j - i → MF μ (mO s i' j') (Sy G s (sg a i' j'))) → (∀ s, s < 6 → MA μ s (mO s i j) (BsQ G q s (sg a i j))) → ∃ μ', (∀ s, s < 6 → MA μ' s (mO s i j) (Bs G s (sg a i j))) ∧ Fs i j μ μ' ∧ l_Md_takeStretch_116 N (nI i) (nI j) kx n μ (nI q) = kx μ' := by
  intro d
  induction d with
  | zero =>
    intro q n μ hq hn hG h5 hF hA
    obtain ⟨n, rfl⟩ : ∃ m, n = m + 1 := ⟨n - 1, by omega⟩
    have hR := hG.1.2.2.1
    have : q = gR G := by omega
    subst this
    refine ⟨μ, fun s hs => (hA s hs).congr (fun e => BsQ_full), Fs.refl _ _ _, ?_⟩
    unfold l_Md_takeStretch_116 f_Md_takeStretch_116
    rw [hG.2.2.2.1, if_pos (nI_le (Nat.le_refl _) (by omega))]
  | succ d ih =>
    intro q n μ hq hn hG h5 hF hA
    obtain ⟨n, rfl⟩ : ∃ m, n = m + 1 := ⟨n - 1, by omega⟩
    have hR := hG.1.2.2.1
    have hqR : q < gR G := by omega
    have hrs : grs G q < 6 := by
      have h1 := (hG.1.2.2.2.2 q hqR).1
      have h2 := hG.1.1
      omega
    obtain ⟨X, hX⟩ : ∃ X, X = l_Md_takeStretch_116 N (nI i) (nI j) kx (n + 1) μ (nI q) := ⟨_, rfl⟩
    rw [← hX]
    have step : X = f_Md_takeStretch_116 N (l_Md_takeStretch_116 N (nI i) (nI j) kx n) kx μ (nI i) (nI j) (nI q) := hX
    unfold f_Md_takeStretch_116 at step
    rw [hG.2.2.2.1, if_neg (nI_ge hqR (by omega))] at step
    rcases q_isPlain hG hqR with ⟨hu, e⟩ | ⟨hu, e⟩
    · rw [e, b1_some, if_neg (by decide), nm_d, nI_1] at step
      obtain ⟨μ', g1, g2, g3⟩ := ih (q + 1) n μ (by omega) (by omega) hG h5 hF (fun s hs => (hA s hs).congr (fun x => by
        constructor
        · rintro (h | ⟨r, r1, r2⟩)
          · exact Or.inl h
          · exact Or.inr ⟨r, by omega, r2⟩
        · rintro (h | ⟨r, r1, r2, r3, r4, r5⟩)
          · exact Or.inl h
          · by_cases er : r = q
            · exact absurd (er ▸ hu) r4
            · exact Or.inr ⟨r, by omega, r2, r3, r4, r5⟩))
      exact ⟨μ', g1, g2, by rw [step]; exact g3⟩
    · obtain ⟨μ1, o1, o2, o3⟩ := q_takeRule hN hG hqR hu hij hj h5 hF (hA _ hrs) (by
        rintro x ⟨gs, dd, _, _, hz⟩ hx
        rcases hx with ⟨y, y1, y2, _⟩ | ⟨r, r1, r2, _, _, gs', dd', _, _, hz'⟩
        · rw [hz] at y2
          injection y2 with y2 _
          rw [← y2] at y1
          exact nI_pos (by omega) y1
        · rw [hz] at hz'
          injection hz' with hz' _
          have := nI_inj (by omega) (by omega) hz'
          omega)
      rw [e, b1_some, if_pos rfl, o1, b1_some, nm_d, nI_1] at step
      have fs1 := Fz.fs hrs o3
      obtain ⟨μ', g1, g2, g3⟩ := ih (q + 1) n μ1 (by omega) (by omega) (hG.fs fs1) (by rw [fs1.1 5 (by decide) (by omega)]; exact h5) (fun s hs i' j' q1 q2 q3 => (hF s hs i' j' q1 q2 q3).fs fs1 (Oc_sub hij hj q1 (by omega) (by omega))) (fun s hs => by
        by_cases es : s = grs G q
        · subst es
          refine o2.congr (fun z => ?_)
          constructor
          · rintro ((h | ⟨r, r1, r2⟩) | h)
            · exact Or.inl h
            · exact Or.inr ⟨r, by omega, r2⟩
            · exact Or.inr ⟨q, by omega, hqR, rfl, hu, h⟩
          · rintro (h | ⟨r, r1, r2, r3, r4, r5⟩)
            · exact Or.inl (Or.inl h)
            · by_cases er : r = q
              · subst er
                exact Or.inr r5
              · exact Or.inl (Or.inr ⟨r, by omega, r2, r3, r4, r5⟩)
        · refine ((hA s hs).fz o3 (fun e => es (mO_inj (by omega) (by omega) hj hj e).1) es).congr (fun z => ?_)
          constructor
          · rintro (h | ⟨r, r1, r2⟩)
            · exact Or.inl h
            · exact Or.inr ⟨r, by omega, r2⟩
          · rintro (h | ⟨r, r1, r2, r3, r4, r5⟩)
            · exact Or.inl h
            · by_cases er : r = q
              · subst er
                exact absurd r3.symm es
              · exact Or.inr ⟨r, by omega, r2, r3, r4, r5⟩)
      exact ⟨μ', g1, fs1.trans g2, by rw [step]; exact g3⟩
/-- the stretch up to where unit rules begin -/
theorem q_strBase {N : Nat} (hN : 2000 ≤ N) {G : Gm} {i j : Nat} {μ : Nat → Nat → Int32} (hG : MdG μ G) (hij : i < j) (hj : j ≤ 12) (hok : ∀ k, i ≤ k → k < j → okSym (gV G) (μ 5 k)) (hF : ∀ s, s < gS G → ∀ i' j', i' < j' → j' ≤ j → j' - i' < j - i → MF μ (mO s i' j') (Sy G s (sg (μ 5) i' j'))) :
    ∃ μ', (∀ s, s < 6 → MA μ' s (mO s i j) (Bs G s (sg (μ 5) i j))) ∧ Fs i j μ μ' ∧ m_Md_takeStretch N μ (nI i) (nI j) = f_Md_takeStretch_145 N μ' (nI i) (nI j) := by
  have hR := hG.1.2.2.1
  have h20 := hG.1.2.1
  have hS6 := hG.1.1
  obtain ⟨μ1, e1, e2, e3, e4⟩ := q_str2 (N := N) hij hj μ (fun s_self => f_Md_takeStretch_51 N s_self (nI i) (nI j)) 6 0 N μ (by omega) (by omega) (fun _ _ _ => rfl) (fun _ _ => rfl) (fun t ht => by omega)
  have fs1 : Fs i j μ μ1 := by
    refine ⟨fun b b0 hb => e1 b (by omega) (by omega), fun k _ _ _ => by rw [e1 0 (by decide) (by decide)], fun c hc => ⟨by rw [e1 7 (by decide) (by decide)], e2 _ (fun t ht => ?_), e2 _ (fun t ht => ?_), fun k _ => by rw [e1 9 (by decide) (by decide)]⟩⟩
    · have := hc t ht
      omega
    · have := hc t ht
      omega
  have hA1 : ∀ s, s < 6 → MA μ1 s (mO s i j) (fun _ => False) := by
    intro s hs
    obtain ⟨q1, q2, q3⟩ := e3 s hs
    exact ⟨0, [], by rw [q1, mW_n (by omega), nI_0], Cnt.none (fun _ h => h), ⟨by simp, fun x hx => by simp at hx, ⟨by rw [q2]; rfl, by simp, fun k hk => by simp at hk⟩, ⟨by rw [q3]; rfl, by simp, fun k hk => by simp at hk⟩⟩, Two.nil (fun _ h => h)⟩
  have e5 : μ1 5 = μ 5 := e1 5 (by decide) (by decide)
  -- a leaf
  have leaf : ∃ μ2, f_Md_takeStretch_51 N μ1 (nI i) (nI j) = l_Md_takeStretch_116 N (nI i) (nI j) (fun s_self => f_Md_takeStretch_145 N s_self (nI i) (nI j)) N μ2 0 ∧ (∀ s, s < 6 → MA μ2 s (mO s i j) (BsQ G 0 s (sg (μ 5) i j))) ∧ Fs i j μ1 μ2 := by
    unfold f_Md_takeStretch_51
    rw [nI_1]
    by_cases one : j = i + 1
    · subst one
      have esg : sg (μ 5) i (i + 1) = [μ 5 i] := sg_one _ _
      rw [if_pos rfl, ck_n (by omega) (by omega), nI_clamp (by omega), e5]
      rcases hok i (Nat.le_refl _) (by omega) with ⟨c, hc, ex⟩ | ⟨v, hv, ex⟩
      · rw [ex, if_pos (nI_pos' (by omega))]
        refine ⟨μ1, rfl, fun s hs => (hA1 s hs).congr (fun e => ?_), Fs.refl _ _ _⟩
        constructor
        · exact fun h => h.elim
        · rintro (⟨x, x1, _, x3, _⟩ | ⟨r, r1, _⟩)
          · rw [esg, List.cons.injEq] at x3
            rw [← x3.1, ex] at x1
            exact nI_pos (by omega) x1
          · omega
      · have hneg : vS v < 0 := vS_neg (by omega)
        have hs6 : gvs G v < 6 := by
          have h1 := hG.1.2.2.2.1 v hv
          omega
        have ev : μ1 1 v = nI (gvs G v) := by
          rw [e1 1 (by decide) (by decide)]
          exact hG.2.2.2.2.1 v hv
        obtain ⟨μ2, a1, a2, a3, a4⟩ := q_add (q_clear (st2 μ1 16 (gvs G v) 1)) (by simp) (vS v)
        rw [List.nil_append] at a1
        obtain ⟨v0, p, w1, w2, w3, w4⟩ := hA1 _ hs6
        have hp : p = [] := by
          rcases w4.shape with ⟨h, _⟩ | ⟨x, _, h, _⟩ | ⟨x, y, _, h, _⟩
          · exact h
          · exact h.elim
          · exact h.elim
        subst hp
        have b2 : ∀ b, b ≠ 0 → b ≠ 10 → b ≠ 16 → μ2 b = μ1 b := fun b b0 b10 b16 => by rw [a2 b b0 b10, st2_a _ _ _ b0, st2_a _ _ _ b16]
        have c2 : ∀ k, k ≠ 19 → μ2 0 k = μ1 0 k := fun k hk => by rw [a3 k hk, st2_k _ _ _ hk, st2_aj _ _ _ _ (by decide)]
        have hp2 : MP μ2 (mO (gvs G v) i (i + 1)) [] := w3.same (b2 8 (by decide) (by decide) (by decide)) (b2 9 (by decide) (by decide) (by decide))
        obtain ⟨μ3, p3, fl, o1, o2, o3, o4, o5⟩ := q_offer (N := N) (by omega) (mO_lt hs6 (by omega) hj) hp2 w4.2.2.1 a1 (by simp)
        have hT3 := offer_two w4 (by simp) o5
        refine ⟨μ3, ?_, fun s hs => ?_, ?_⟩
        · rw [ex, if_neg (Int32.not_le.mpr hneg), vS_back (by omega), ck_n (by omega) (by omega), ck_n (by omega) (by omega), nm_d, nI_clamp (by omega), ev, ck_n (by omega) (by omega), nm_d, nI_clamp (by omega), nm_d, ck_n (by omega) (by omega), st2_aj _ _ _ _ (by decide), st2_aj _ _ _ _ (by decide), e5, ex, a4, b1_some, q_cellOf, b1_some, o1, b2_some]
        · by_cases es : s = gvs G v
          · subst es
            refine ⟨1, p3, ?_, (Cnt.one [vS v]).congr (fun e => ?_), o2, hT3.congr (fun e => ?_)⟩
            · rw [o4.1 16 (by decide) (by decide), a2 16 (by decide) (by decide), st2_aj _ _ _ _ (by decide), st2_s, mW_n (by omega)]
              rfl
            · constructor
              · intro h
                refine Or.inl ⟨vS v, hneg, h, by rw [esg, ex], ?_⟩
                unfold sX
                rw [vI_vS (by omega)]
              · rintro (⟨x, x1, x2, x3, _⟩ | ⟨r, r1, _⟩)
                · rw [esg, List.cons.injEq] at x3
                  rw [x2, ← x3.1, ex]
                · omega
            · constructor
              · rintro (h | h)
                · exact h.elim
                · refine Or.inl ⟨vS v, hneg, h, by rw [esg, ex], ?_⟩
                  unfold sX
                  rw [vI_vS (by omega)]
              · rintro (⟨x, x1, x2, x3, _⟩ | ⟨r, r1, _⟩)
                · rw [esg, List.cons.injEq] at x3
                  exact Or.inr (by rw [x2, ← x3.1, ex])
                · omega
          · obtain ⟨v', p', y1, y2, y3, y4⟩ := hA1 s hs
            have hne : mO s i (i + 1) ≠ mO (gvs G v) i (i + 1) := fun e => es (mO_inj (by omega) (by omega) hj hj e).1
            have : MA μ3 s (mO s i (i + 1)) (fun _ => False) := ⟨v', p', by rw [o4.1 16 (by decide) (by decide), a2 16 (by decide) (by decide), st2_aj _ _ _ _ (by decide), st2_k _ _ _ es]; exact y1, y2, (y3.same (b2 8 (by decide) (by decide) (by decide)) (b2 9 (by decide) (by decide) (by decide))).wc o4 hne, y4⟩
            refine this.congr (fun e => ?_)
            constructor
            · exact fun h => h.elim
            · rintro (⟨x, x1, x2, x3, x4⟩ | ⟨r, r1, _⟩)
              · rw [esg, List.cons.injEq] at x3
                rw [← x3.1, ex] at x4
                unfold sX at x4
                rw [vI_vS (by omega)] at x4
                exact es x4.symm
              · omega
        · refine ⟨fun b b0 hb => by rw [o4.1 b (by omega) (by omega), b2 b b0 (by omega) (by omega)], fun k k19 _ _ => by rw [o4.1 0 (by decide) (by decide), c2 k k19], fun c hc => ?_⟩
          have hne := hc _ hs6
          exact ⟨by rw [o4.1 7 (by decide) (by decide), b2 7 (by decide) (by decide) (by decide)], by rw [o4.2.1 _ (by omega) (by omega), b2 8 (by decide) (by decide) (by decide)], by rw [o4.2.1 _ (by omega) (by omega), b2 8 (by decide) (by decide) (by decide)], fun k hk => by rw [o4.2.2 _ (fun z hz => by omega), b2 9 (by decide) (by decide) (by decide)]⟩
    · rw [if_neg (fun h => one (nI_inj (by omega) (by omega) h))]
      refine ⟨μ1, rfl, fun s hs => (hA1 s hs).congr (fun e => ?_), Fs.refl _ _ _⟩
      constructor
      · exact fun h => h.elim
      · rintro (⟨x, _, _, x3, _⟩ | ⟨r, r1, _⟩)
        · have := congrArg List.length x3
          rw [sg_len, List.length_singleton] at this
          omega
        · omega
  obtain ⟨μ2, l1, l2, l3⟩ := leaf
  have fs2 := fs1.trans l3
  obtain ⟨μ', g1, g2, g3⟩ := q_str116 hN hij hj (μ 5) (fun s_self => f_Md_takeStretch_145 N s_self (nI i) (nI j)) (gR G) 0 N μ2 (by omega) (by omega) (hG.fs fs2) (by rw [fs2.1 5 (by decide) (by omega)]) (fun s hs i' j' q1 q2 q3 => (hF s hs i' j' q1 q2 q3).fs fs2 (Oc_sub hij hj q1 (by omega) (by omega))) l2
  refine ⟨μ', g1, fs2.trans g2, ?_⟩
  rw [nI_0] at e4 g3
  exact e4.trans (l1.trans g3)
