/-! a stretch, whole, in the model -/
theorem q_str351 {N : Nat} (hN : 2000 ≤ N) {G : Gm} {y : List Int32} {i j : Nat} (hij : i < j) (hj : j ≤ 12) (kx : (Nat → Nat → Int32) → Int32 → Option (Nat → Nat → Int32)) : ∀ (d r n : Nat) (μ : Nat → Nat → Int32) (P : Nat → List (List Int32)) (ch : Int32), r + d = gR G → d < n → MdG μ G → UI G y i j μ P → (ch = 0 ∨ ch = 1) → ∃ μ' P' ch', Fu i j μ μ' ∧ UI G y i j μ' P' ∧ ((ch' = ch ∧ P' = P ∧ ∀ r', r ≤ r' → r' < gR G → isU G r' → ∀ c, c ∈ P (uS G r') → c.length < 150 → dom (P (grs G r')) (nI r' :: c)) ∨ (ch' = 1 ∧ Mz P' < Mz P)) ∧ l_Md_takeStretch_351 N (nI i) (nI j) kx n μ ch (nI r) = kx μ' ch' := by
  intro d
  induction d with
  | zero =>
    intro r n μ P ch hq hn hG hU hc
    obtain ⟨n, rfl⟩ : ∃ m, n = m + 1 := ⟨n - 1, by omega⟩
    have hR := hG.1.2.2.1
    have : r = gR G := by omega
    subst this
    refine ⟨μ, P, ch, Fu.refl _ _ _, hU, Or.inl ⟨rfl, rfl, fun r' h1 h2 => by omega⟩, ?_⟩
    unfold l_Md_takeStretch_351 f_Md_takeStretch_351
    rw [hG.2.2.2.1, if_pos (nI_le (Nat.le_refl _) (by omega))]
  | succ d ih =>
    intro r n μ P ch hq hn hG hU hc
    obtain ⟨n, rfl⟩ : ∃ m, n = m + 1 := ⟨n - 1, by omega⟩
    have hR := hG.1.2.2.1
    obtain ⟨μ1, P1, ch1, a1, a2, a3, a4⟩ := q_str363 hN hij hj (show r < gR G by omega) (fun s_self v3 => f_Md_takeStretch_469 N (l_Md_takeStretch_351 N (nI i) (nI j) kx n) kx s_self (nI i) (nI j) v3 (nI r)) 2 0 N μ P ch (by omega) (by omega) hG hU hc
    have hc1 : ch1 = 0 ∨ ch1 = 1 := by
      rcases a3 with ⟨rfl, _⟩ | ⟨rfl, _⟩
      · exact hc
      · exact Or.inr rfl
    obtain ⟨μ', P', ch', b1, b2, b3, b4⟩ := ih (r + 1) n μ1 P1 ch1 (by omega) (by omega) (hG.fs a1.fs) a2 hc1
    refine ⟨μ', P', ch', a1.trans b1, b2, ?_, ?_⟩
    · rcases a3 with ⟨rfl, rfl, x3⟩ | ⟨rfl, x2⟩
      · rcases b3 with ⟨rfl, rfl, y3⟩ | y
        · refine Or.inl ⟨rfl, rfl, fun r' h1 h2 hu c hc hl => ?_⟩
          by_cases e : r' = r
          · subst e
            obtain ⟨k, hk⟩ := List.getElem?_of_mem hc
            exact x3 hu k (by omega) c hk hl
          · exact y3 r' (by omega) h2 hu c hc hl
        · exact Or.inr y
      · rcases b3 with ⟨rfl, rfl, _⟩ | ⟨y1, y2⟩
        · exact Or.inr ⟨rfl, x2⟩
        · exact Or.inr ⟨y1, Nat.lt_trans y2 x2⟩
    · unfold l_Md_takeStretch_351 f_Md_takeStretch_351
      rw [nI_0] at a4
      rw [hG.2.2.2.1, if_neg (nI_ge (by omega) (by omega)), a4]
      unfold f_Md_takeStretch_469
      rw [nm_d, nI_1]
      exact b4
theorem q_str342 {N : Nat} (hN : 2000 ≤ N) {G : Gm} {y : List Int32} {i j : Nat} (hij : i < j) (hj : j ≤ 12) (kx : (Nat → Nat → Int32) → Option (Nat → Nat → Int32)) : ∀ (d n : Nat) (μ : Nat → Nat → Int32) (P : Nat → List (List Int32)), Mz P ≤ d → d + 1 < n → MdG μ G → UI G y i j μ P → ∃ μ' P', Fu i j μ μ' ∧ UI G y i j μ' P' ∧ (∀ r', r' < gR G → isU G r' → ∀ c, c ∈ P' (uS G r') → c.length < 150 → dom (P' (grs G r')) (nI r' :: c)) ∧ l_Md_takeStretch_342 N (nI i) (nI j) kx n μ 1 = kx μ' := by
  intro d
  induction d with
  | zero =>
    intro n μ P hM hn hG hU
    obtain ⟨n, rfl⟩ : ∃ m, n = m + 2 := ⟨n - 2, by omega⟩
    have hR := hG.1.2.2.1
    obtain ⟨μ1, P1, ch1, a1, a2, a3, a4⟩ := q_str351 hN hij hj (fun s_self v3 => f_Md_takeStretch_475 N (l_Md_takeStretch_342 N (nI i) (nI j) kx (n + 1)) kx s_self (nI i) (nI j) v3) (gR G) 0 N μ P 0 (by omega) (by omega) hG hU (Or.inl rfl)
    rcases a3 with ⟨rfl, rfl, x3⟩ | ⟨_, x2⟩
    · refine ⟨μ1, P1, a1, a2, fun r' h => x3 r' (Nat.zero_le _) h, ?_⟩
      unfold l_Md_takeStretch_342 f_Md_takeStretch_342
      rw [nI_0] at a4
      rw [if_neg (by decide), a4]
      unfold f_Md_takeStretch_475 l_Md_takeStretch_342 f_Md_takeStretch_342
      rw [if_pos rfl]
    · omega
  | succ d ih =>
    intro n μ P hM hn hG hU
    obtain ⟨n, rfl⟩ : ∃ m, n = m + 2 := ⟨n - 2, by omega⟩
    have hR := hG.1.2.2.1
    obtain ⟨μ1, P1, ch1, a1, a2, a3, a4⟩ := q_str351 hN hij hj (fun s_self v3 => f_Md_takeStretch_475 N (l_Md_takeStretch_342 N (nI i) (nI j) kx (n + 1)) kx s_self (nI i) (nI j) v3) (gR G) 0 N μ P 0 (by omega) (by omega) hG hU (Or.inl rfl)
    rcases a3 with ⟨rfl, rfl, x3⟩ | ⟨rfl, x2⟩
    · refine ⟨μ1, P1, a1, a2, fun r' h => x3 r' (Nat.zero_le _) h, ?_⟩
      unfold l_Md_takeStretch_342 f_Md_takeStretch_342
      rw [nI_0] at a4
      rw [if_neg (by decide), a4]
      unfold f_Md_takeStretch_475 l_Md_takeStretch_342 f_Md_takeStretch_342
      rw [if_pos rfl]
    · obtain ⟨μ', P', b1, b2, b3, b4⟩ := ih (n + 1) μ1 P1 (by omega) (by omega) (hG.fs a1.fs) a2
      refine ⟨μ', P', a1.trans b1, b2, b3, ?_⟩
      unfold l_Md_takeStretch_342 f_Md_takeStretch_342
      rw [nI_0] at a4
      rw [if_neg (by decide), a4]
      unfold f_Md_takeStretch_475
      exact b4
theorem q_takeStretch {N : Nat} (hN : NB ≤ N) {G : Gm} {i j : Nat} {μ : Nat → Nat → Int32} (hG : MdG μ G) (hC : CmOK μ G) (hij : i < j) (hj : j ≤ 12) (hok : ∀ k, i ≤ k → k < j → okSym (gV G) (μ 5 k)) (hF : ∀ s, s < gS G → ∀ i' j', i' < j' → j' ≤ j → j' - i' < j - i → MF μ (mO s i' j') (Sy G s (sg (μ 5) i' j'))) :
    ∃ μ', (∀ s, s < gS G → MF μ' (mO s i j) (Sy G s (sg (μ 5) i j))) ∧ Fs i j μ μ' ∧ m_Md_takeStretch N μ (nI i) (nI j) = some μ' := by
  have hNB : 70000 ≤ NB := by unfold NB; omega
  have hS := hG.1.1
  obtain ⟨μ1, a1, a2, a3⟩ := q_strBase (N := N) (by omega) hG hij hj hok hF
  have hG1 := hG.fs a2
  have hC1 : CmOK μ1 G := hC.of (a2.1 18 (by decide) (by omega))
  have hex : ∃ w : Nat → Nat, ∀ s, s < 6 → μ1 16 s = mW (w s) ∧ Cnt (Bs G s (sg (μ 5) i j)) (w s) := by
    refine ⟨fun s => if h : s < 6 then (a1 s h).choose else 0, fun s hs => ?_⟩
    simp only [dif_pos hs]
    obtain ⟨p, h1, h2, _⟩ := (a1 s hs).choose_spec
    exact ⟨h1, h2⟩
  obtain ⟨w, hw⟩ := hex
  have hB : ∀ d, d < gS G → Cnt (Bs G d (sg (μ 5) i j)) (w d) := fun d hd => (hw d (by omega)).2
  -- found is zero
  obtain ⟨μ2, b1, b2, b3⟩ := q_str147 (N := N) hS μ1 hG1.2.1 (nI i) (nI j) (fun s_self => f_Md_takeStretch_168 N s_self (nI i) (nI j)) (gS G) 0 N μ1 (by omega) (by omega) (fun _ _ => rfl) (fun t ht => by omega)
  -- rounds
  obtain ⟨μ3, A3, c1, c2, c3⟩ := q_str170 (N := N) (by omega) hB (nI i) (nI j) μ2 (hG1.fq (fun z _ => by rw [b1 0 (by decide)]) (fun b hb => b1 b (by omega))) (hC1.of (b1 18 (by decide))) (fun d hd => by rw [b1 16 (by decide)]; exact (hw d (by omega)).1) (fun s_self => f_Md_takeStretch_307 N s_self (nI i) (nI j)) (gS G + 1) 0 N μ2 (fun _ _ => False) (by omega) (by omega) (fun _ _ => rfl) (fun t ht => ⟨⟨0, by rw [b2 t ht, mW_n (by omega), nI_0], Cnt.none (fun _ h => h)⟩, fun c hc => by
    rw [if_neg (by omega)] at hc
    obtain ⟨k', e, _⟩ := hc
    omega, fun c h => h.elim, fun h => by omega⟩)
  have c1' : ∀ b, b ≠ 17 → μ3 b = μ1 b := fun b hb => by rw [c1 b hb, b1 b hb]
  -- numbers
  obtain ⟨μ4, d1, d2, d3, d4⟩ := q_str309 (N := N) hS hij hj μ3 (by rw [c1' 0 (by decide)]; exact hG1.2.1) (fun s_self => f_Md_takeStretch_340 N s_self (nI i) (nI j)) (gS G) 0 N μ3 (by omega) (by omega) (fun _ _ => rfl) (fun t ht => by omega) (fun _ _ => rfl)
  have d1' : ∀ b, b ≠ 17 → b ≠ 7 → μ4 b = μ1 b := fun b h1 h2 => by rw [d1 b h2, c1' b h1]
  have fs4 : Fs i j μ1 μ4 := ⟨fun b b0 hb => d1' b (by omega) (by omega), fun k _ _ _ => by rw [d1' 0 (by decide) (by decide)], fun c hc => ⟨by rw [d3 c hc, c1' 7 (by decide)], by rw [d1' 8 (by decide) (by decide)], by rw [d1' 8 (by decide) (by decide)], fun k _ => by rw [d1' 9 (by decide) (by decide)]⟩⟩
  have hG4 := hG1.fs fs4
  -- trees of unit rules
  have hex2 : ∃ P : Nat → List (List Int32), UI G (sg (μ 5) i j) i j μ4 P := by
    refine ⟨fun s => if h : s < 6 then (a1 s h).choose_spec.choose else [], fun s hs => ?_⟩
    simp only [dif_pos hs]
    obtain ⟨_, _, h3, h4⟩ := (a1 s hs).choose_spec.choose_spec
    exact ⟨h3.same (d1' 8 (by decide) (by decide)) (d1' 9 (by decide) (by decide)), _, h4, fun c hc => hc, fun c hc => Bs_Sy hc⟩
  obtain ⟨P4, hU4⟩ := hex2
  have hmz := hU4.mz
  obtain ⟨μ5, P5, e1, e2, e3, e4⟩ := q_str342 (N := N) (by omega) hij hj (fun s_self => f_Md_takeStretch_478 N s_self) (Mz P4) N μ4 P4 (Nat.le_refl _) (by omega) hG4 hU4
  have hsl : (sg (μ 5) i j).length ≤ 12 := by rw [sg_len]; omega
  have two := Two_closed hG.1 hsl (P := P5) (fun s hs => (e2 s hs).1.1) (fun s hs c hc => by
    obtain ⟨_, A, t1, _, t3⟩ := e2 s hs
    exact t3 c (t1.2.1 c hc)) (fun s hs => by
    obtain ⟨_, A, t1, _, t3⟩ := e2 s hs
    exact t1.2.2.1) (fun s hs c hc => by
    obtain ⟨_, A, t1, t2, t3⟩ := e2 s hs
    exact t1.2.2.2 c (t2 c hc)) e3
  refine ⟨μ5, fun s hs => ?_, (a2.trans fs4).trans e1.fs, ?_⟩
  · have hs6 : s < 6 := by omega
    obtain ⟨⟨v, v1, v2⟩, q2, q3, q4⟩ := c2 s hs
    rw [if_neg (by omega)] at q2
    have e7 : μ5 7 (mO s i j) = μ3 17 s := by rw [e1.1 7 (by decide) (by decide) (by decide) (by decide)]; exact d2 s hs
    by_cases ed : ∃ z, z < gS G ∧ Ed G w s z
    · obtain ⟨z, z1, z2⟩ := ed
      exact ⟨1000002, P5 s, by rw [e7]; exact q4 (Or.inl (by omega)) ⟨z, z1, z2⟩, Cnt.inf (Ed_inf hB z1 z2), (e2 s hs6).1, two s hs6⟩
    · exact ⟨v, P5 s, by rw [e7]; exact v1, v2.congr (fun c => ⟨fun h => q3 c h, fun h => q2 c ⟨gS G, rfl, Ed_no hG.1 hB hs ed h⟩⟩), (e2 s hs6).1, two s hs6⟩
  · rw [nI_0] at b3 c3 d4
    rw [a3]
    unfold f_Md_takeStretch_145
    rw [b3]
    show f_Md_takeStretch_168 N μ2 (nI i) (nI j) = _
    unfold f_Md_takeStretch_168
    rw [c3]
    show f_Md_takeStretch_307 N μ3 (nI i) (nI j) = _
    unfold f_Md_takeStretch_307
    rw [d4]
    show f_Md_takeStretch_340 N μ4 (nI i) (nI j) = _
    unfold f_Md_takeStretch_340
    rw [e4]
    rfl
