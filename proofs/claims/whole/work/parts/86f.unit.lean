/-! unit rules' trees, in the model -/
def Fu (i j : Nat) (μ μ' : Nat → Nat → Int32) : Prop := (∀ b, b ≠ 0 → b ≠ 8 → b ≠ 9 → b ≠ 10 → μ' b = μ b) ∧ (∀ k, k ≠ 19 → μ' 0 k = μ 0 k) ∧ ∀ c, Oc i j c → μ' 8 (2 * c) = μ 8 (2 * c) ∧ μ' 8 (2 * c + 1) = μ 8 (2 * c + 1) ∧ ∀ k, k < 400 → μ' 9 (400 * c + k) = μ 9 (400 * c + k)
theorem Fu.refl (i j : Nat) (μ : Nat → Nat → Int32) : Fu i j μ μ := ⟨fun _ _ _ _ _ => rfl, fun _ _ => rfl, fun _ _ => ⟨rfl, rfl, fun _ _ => rfl⟩⟩
theorem Fu.trans {i j : Nat} {μ μ' μ'' : Nat → Nat → Int32} (h : Fu i j μ μ') (k : Fu i j μ' μ'') : Fu i j μ μ'' := by
  refine ⟨fun b b0 b8 b9 b10 => by rw [k.1 b b0 b8 b9 b10, h.1 b b0 b8 b9 b10], fun z hz => by rw [k.2.1 z hz, h.2.1 z hz], fun c hc => ?_⟩
  obtain ⟨a2, a3, a4⟩ := h.2.2 c hc
  obtain ⟨b2, b3, b4⟩ := k.2.2 c hc
  exact ⟨by rw [b2, a2], by rw [b3, a3], fun z hz => by rw [b4 z hz, a4 z hz]⟩
theorem Fu.fs {i j : Nat} {μ μ' : Nat → Nat → Int32} (h : Fu i j μ μ') : Fs i j μ μ' := by
  refine ⟨fun b b0 hb => h.1 b b0 (by omega) (by omega) (by omega), fun k k1 _ _ => h.2.1 k k1, fun c hc => ?_⟩
  obtain ⟨a2, a3, a4⟩ := h.2.2 c hc
  exact ⟨by rw [h.1 7 (by decide) (by decide) (by decide) (by decide)], a2, a3, a4⟩
theorem Wc.fu {i j s : Nat} (hs : s < 6) {μ μ' : Nat → Nat → Int32} (h : Wc μ μ' (mO s i j)) : Fu i j μ μ' := by
  refine ⟨fun b b0 b8 b9 _ => h.1 b b8 b9, fun k _ => by rw [h.1 0 (by decide) (by decide)], fun c hc => ?_⟩
  have hne := hc s hs
  exact ⟨h.2.1 _ (by omega) (by omega), h.2.1 _ (by omega) (by omega), fun k hk => h.2.2 _ (fun z hz => by omega)⟩
def Mz (P : Nat → List (List Int32)) : Nat := pm (P 0) + pm (P 1) + pm (P 2) + pm (P 3) + pm (P 4) + pm (P 5)
theorem Mz_lt {P P' : Nat → List (List Int32)} {s : Nat} (hs : s < 6) (h : pm (P' s) < pm (P s)) (k : ∀ t, t ≠ s → P' t = P t) : Mz P' < Mz P := by
  unfold Mz
  match s, hs with
  | 0, _ => rw [k 1 (by decide), k 2 (by decide), k 3 (by decide), k 4 (by decide), k 5 (by decide)]; omega
  | 1, _ => rw [k 0 (by decide), k 2 (by decide), k 3 (by decide), k 4 (by decide), k 5 (by decide)]; omega
  | 2, _ => rw [k 1 (by decide), k 0 (by decide), k 3 (by decide), k 4 (by decide), k 5 (by decide)]; omega
  | 3, _ => rw [k 1 (by decide), k 2 (by decide), k 0 (by decide), k 4 (by decide), k 5 (by decide)]; omega
  | 4, _ => rw [k 1 (by decide), k 2 (by decide), k 3 (by decide), k 0 (by decide), k 5 (by decide)]; omega
  | 5, _ => rw [k 1 (by decide), k 2 (by decide), k 3 (by decide), k 4 (by decide), k 0 (by decide)]; omega
theorem pm_le {p : List (List Int32)} (hl : p.length ≤ 2) (h : ∀ x, x ∈ p → x.length ≤ 200) : pm p ≤ 402 * KB := by
  match p, hl, h with
  | [], _, _ => exact Nat.le_refl _
  | [a], _, h =>
    have := rk_top (h a (by simp))
    show rk a + 201 * KB ≤ 402 * KB
    omega
  | [a, b], _, h =>
    have h1 := rk_top (h a (by simp))
    have h2 := rk_top (h b (by simp))
    show rk a + rk b ≤ 402 * KB
    omega
theorem MP.l200 {μ : Nat → Nat → Int32} {c : Nat} {p : List (List Int32)} (h : MP μ c p) : ∀ x, x ∈ p → x.length ≤ 200 := by
  obtain ⟨h1, _, h3, h4⟩ := h
  intro x hx
  match p, h1, h3, h4, hx with
  | [a], _, h3, _, hx =>
    simp only [List.mem_cons, List.not_mem_nil, or_false] at hx
    subst hx
    exact h3.2.1
  | [a, b], _, h3, h4, hx =>
    simp only [List.mem_cons, List.not_mem_nil, or_false] at hx
    rcases hx with rfl | rfl
    · exact h3.2.1
    · exact h4.2.1
/-- fuel that is enough for every loop -/
def NB : Nat := 2412 * KB + 4000000
def UI (G : Gm) (y : List Int32) (i j : Nat) (μ : Nat → Nat → Int32) (P : Nat → List (List Int32)) : Prop := ∀ s, s < 6 → MP μ (mO s i j) (P s) ∧ ∃ A : List Int32 → Prop, Two A (P s) ∧ (∀ c, Bs G s y c → A c) ∧ ∀ c, A c → Sy G s y c
theorem UI.mz {G : Gm} {y : List Int32} {i j : Nat} {μ : Nat → Nat → Int32} {P : Nat → List (List Int32)} (h : UI G y i j μ P) : Mz P + 70000 ≤ NB := by
  have k : ∀ s, s < 6 → pm (P s) ≤ 402 * KB := fun s hs => pm_le (h s hs).1.1 (h s hs).1.l200
  have k0 := k 0 (by decide)
  have k1 := k 1 (by decide)
  have k2 := k 2 (by decide)
  have k3 := k 3 (by decide)
  have k4 := k 4 (by decide)
  have k5 := k 5 (by decide)
  unfold Mz NB
  omega
theorem q_str363 {N : Nat} (hN : 2000 ≤ N) {G : Gm} {y : List Int32} {i j r : Nat} (hij : i < j) (hj : j ≤ 12) (hr : r < gR G) (kx : (Nat → Nat → Int32) → Int32 → Option (Nat → Nat → Int32)) : ∀ (d q n : Nat) (μ : Nat → Nat → Int32) (P : Nat → List (List Int32)) (ch : Int32), q + d = 2 → d < n → MdG μ G → UI G y i j μ P → (ch = 0 ∨ ch = 1) → ∃ μ' P' ch', Fu i j μ μ' ∧ UI G y i j μ' P' ∧ ((ch' = ch ∧ P' = P ∧ (isU G r → ∀ k, q ≤ k → ∀ c, (P (uS G r))[k]? = some c → c.length < 150 → dom (P (grs G r)) (nI r :: c))) ∨ (ch' = 1 ∧ Mz P' < Mz P)) ∧ l_Md_takeStretch_363 N (nI i) (nI j) (nI r) kx n μ ch (nI q) = kx μ' ch' := by
  intro d
  induction d with
  | zero =>
    intro q n μ P ch hq hn hG hU hc
    obtain ⟨n, rfl⟩ : ∃ m, n = m + 1 := ⟨n - 1, by omega⟩
    have : q = 2 := by omega
    subst this
    refine ⟨μ, P, ch, Fu.refl _ _ _, hU, Or.inl ⟨rfl, rfl, fun hu k hk c hc => ?_⟩, ?_⟩
    · have := (hU _ (uS_lt6 hG.1 hr hu)).1.1
      have := List.getElem?_eq_some_iff.mp hc
      obtain ⟨z, _⟩ := this
      omega
    · unfold l_Md_takeStretch_363 f_Md_takeStretch_363
      rw [l_2, if_pos (nI_le (Nat.le_refl _) (by omega))]
  | succ d ih =>
    intro q n μ P ch hq hn hG hU hc
    obtain ⟨n, rfl⟩ : ∃ m, n = m + 1 := ⟨n - 1, by omega⟩
    have hR := hG.1.2.2.1
    have hV := hG.1.2.1
    obtain ⟨X, hX⟩ : ∃ X, X = l_Md_takeStretch_363 N (nI i) (nI j) (nI r) kx (n + 1) μ ch (nI q) := ⟨_, rfl⟩
    rw [← hX]
    have step : X = f_Md_takeStretch_363 N (l_Md_takeStretch_363 N (nI i) (nI j) (nI r) kx n) kx μ (nI i) (nI j) ch (nI r) (nI q) := hX
    unfold f_Md_takeStretch_363 at step
    rw [l_2, if_neg (nI_ge (by omega) (by omega))] at step
    rcases q_isPlain hG hr with ⟨hu, e⟩ | ⟨hu, e⟩
    · obtain ⟨z, hz, e4, e1⟩ := q_unit hG hr hu
      have hus := uS_lt6 hG.1 hr hu
      have hco := mO_lt hus (show i < 12 by omega) hj
      have hrs6 : grs G r < 6 := by
        have h1 := (hG.1.2.2.2.2 r hr).1
        have h2 := hG.1.1
        omega
      have hcr := mO_lt hrs6 (show i < 12 by omega) hj
      rw [e, b1_some, if_neg (by decide), l_8, pk_mul, ck_n (by omega) (by omega), nI_clamp (by omega), e4, vS_back (by omega), ck_n (by omega) (by omega), nI_clamp (by omega), e1, q_cellOf, b1_some, pk_mul, nI_add, nm_d, ck_n (by omega) (by omega), nI_clamp (by omega)] at step
      obtain ⟨hP, A, hT, hB, hS⟩ := hU _ hus
      have hMT : MT μ (2 * mO (uS G r) i j + q) ((P (uS G r)).getD q []) := by
        rcases (show q = 0 ∨ q = 1 by omega) with rfl | rfl
        · exact hP.2.2.1
        · exact hP.2.2.2
      rw [hMT.1] at step
      cases hc' : (P (uS G r))[q]? with
      | none =>
        have hl : ((P (uS G r)).getD q []).length = 0 := by
          rw [List.getD_eq_getElem?_getD, hc']
          rfl
        rw [if_pos (by rw [hl]; decide), nm_d, nI_1] at step
        obtain ⟨μ', P', ch', g1, g2, g3, g4⟩ := ih (q + 1) n μ P ch (by omega) (by omega) hG hU hc
        refine ⟨μ', P', ch', g1, g2, ?_, by rw [step]; exact g4⟩
        rcases g3 with ⟨a1, a2, a3⟩ | g3
        · refine Or.inl ⟨a1, a2, fun hu k hk c hc => ?_⟩
          by_cases ek : k = q
          · subst ek
            rw [hc'] at hc
            exact absurd hc (by simp)
          · exact a3 hu k (by omega) c hc
        · exact Or.inr g3
      | some c =>
        have hmem : c ∈ P (uS G r) := List.mem_of_getElem? hc'
        have hcne := hP.2.1 c hmem
        have hc200 := hP.l200 c hmem
        have hg : (P (uS G r)).getD q [] = c := by
          rw [List.getD_eq_getElem?_getD, hc']
          rfl
        rw [hg] at hMT step
        have hc0 : 0 < c.length := List.length_pos_iff.mpr hcne
        have hSc : Sy G (uS G r) y c := hS c (hT.2.1 c hmem)
        obtain ⟨μ1, a1, a2, a3, a4⟩ := q_add (q_clear μ) (by simp) (nI r)
        rw [List.nil_append] at a1
        obtain ⟨μ2, b1, b2, b3, b4⟩ := q_addTree (N := N) (by omega) (by omega) (hMT.keep (by rw [a2 8 (by decide) (by decide), st2_a _ _ _ (by decide)]) (by rw [a2 9 (by decide) (by decide), st2_a _ _ _ (by decide)])) a1 (by simp; omega)
        have d2 : ∀ b, b ≠ 0 → b ≠ 10 → μ2 b = μ b := fun b b0 b10 => by rw [b2 b b0 b10, a2 b b0 b10, st2_a _ _ _ b0]
        have c2 : ∀ k, k ≠ 19 → μ2 0 k = μ 0 k := fun k hk => by rw [b3 k hk, a3 k hk, st2_k _ _ _ hk]
        have fu2 : Fu i j μ μ2 := ⟨fun b b0 _ _ b10 => d2 b b0 b10, c2, fun c _ => by rw [d2 8 (by decide) (by decide), d2 9 (by decide) (by decide)]; exact ⟨rfl, rfl, fun _ _ => rfl⟩⟩
        obtain ⟨hPr, A0, hT0, hB0, hS0⟩ := hU _ hrs6
        obtain ⟨μ3, p3, fl, o1, o2, o3, o4, o5⟩ := q_offer (N := N) (by omega) hcr (hPr.same (d2 8 (by decide) (by decide)) (d2 9 (by decide) (by decide))) hT0.2.2.1 b1 (by simp)
        have ec : [nI r] ++ c = nI r :: c := rfl
        rw [ec] at o5
        rw [if_neg (fun h => absurd (eq_true h) (by rw [c_le0 hc0 (by omega)]; exact false_ne_true)), nm_d, a4, b1_some, b4, b1_some, ck_n (by omega) (by omega), nI_clamp (by omega), d2 2 (by decide) (by decide), (hG.2.2.2.2.2 r hr).1, q_cellOf, b1_some, o1, b2_some] at step
        have fu3 : Fu i j μ μ3 := fu2.trans (o4.fu hrs6)
        have hG3 : MdG μ3 G := hG.fs fu3.fs
        have others : ∀ s, s < 6 → s ≠ grs G r → MP μ3 (mO s i j) (P s) := fun s hs hne => ((hU s hs).1.same (d2 8 (by decide) (by decide)) (d2 9 (by decide) (by decide))).wc o4 (fun e => hne (mO_inj (by omega) (by omega) hj hj e).1)
        rcases o5 with ⟨rfl, o5, o6, o7⟩ | ⟨rfl, rfl, _, o6⟩
        · rw [if_neg (by decide), nm_d, nI_1] at step
          have hlt : Mz (fun s => if s = grs G r then p3 else P s) < Mz P := by
            refine Mz_lt hrs6 ?_ (fun t ht => if_neg ht)
            show pm (if grs G r = grs G r then p3 else P (grs G r)) < _
            rw [if_pos rfl]
            exact pm_ins o5 o6 hPr.l200 hT0.2.2.1 o7
          obtain ⟨μ', P', ch', g1, g2, g3, g4⟩ := ih (q + 1) n μ3 (fun s => if s = grs G r then p3 else P s) 1 (by omega) (by omega) hG3 (fun s hs => by
            by_cases es : s = grs G r
            · subst es
              simp only [if_true]
              refine ⟨o2, addc A0 (nI r :: c), o5.two hT0, fun e he => Or.inl (hB0 e he), ?_⟩
              rintro e (he | rfl)
              · exact hS0 e he
              · exact Sy_bu.mpr (Or.inr ⟨r, hr, rfl, hu, c, hSc, rfl⟩)
            · simp only [if_neg es]
              exact ⟨others s hs es, (hU s hs).2⟩) (Or.inr rfl)
          refine ⟨μ', P', ch', fu3.trans g1, g2, Or.inr ?_, by rw [step]; exact g4⟩
          rcases g3 with ⟨x1, x2, _⟩ | ⟨x1, x2⟩
          · exact ⟨x1, by rw [x2]; exact hlt⟩
          · exact ⟨x1, Nat.lt_trans x2 hlt⟩
        · have hst : X = l_Md_takeStretch_363 N (nI i) (nI j) (nI r) kx n μ3 ch (nI (q + 1)) := by
            rw [step, if_pos rfl]
            rcases hc with rfl | rfl
            · rw [if_pos rfl, nm_d, nI_1]
            · rw [if_neg (by decide), nm_d, nI_1]
          obtain ⟨μ', P', ch', g1, g2, g3, g4⟩ := ih (q + 1) n μ3 P ch (by omega) (by omega) hG3 (fun s hs => by
            by_cases es : s = grs G r
            · subst es
              exact ⟨o2, A0, hT0, hB0, hS0⟩
            · exact ⟨others s hs es, (hU s hs).2⟩) hc
          refine ⟨μ', P', ch', fu3.trans g1, g2, ?_, by rw [hst]; exact g4⟩
          rcases g3 with ⟨a1, a2, a3⟩ | g3
          · refine Or.inl ⟨a1, a2, fun hu k hk c' hc'' hl => ?_⟩
            by_cases ek : k = q
            · subst ek
              rw [hc'] at hc''
              injection hc'' with hc''
              subst hc''
              rcases o6 with o6 | o6
              · exact o6
              · simp only [List.length_cons] at o6
                omega
            · exact a3 hu k (by omega) c' hc'' hl
          · exact Or.inr g3
    · rw [e, b1_some, if_pos rfl] at step
      exact ⟨μ, P, ch, Fu.refl _ _ _, hU, Or.inl ⟨rfl, rfl, fun h => absurd h hu⟩, step⟩
