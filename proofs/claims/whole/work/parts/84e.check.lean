/-! check, in the class -/
theorem b7_some {α1 α2 α3 α4 α5 α6 α7 β : Type} (a1 : α1) (a2 : α2) (a3 : α3) (a4 : α4) (a5 : α5) (a6 : α6) (a7 : α7) (k : α1 → α2 → α3 → α4 → α5 → α6 → α7 → Option β) : bd7 (some (a1, a2, a3, a4, a5, a6, a7)) k = k a1 a2 a3 a4 a5 a6 a7 := id rfl
theorem sg_list {a : Nat → Int32} : ∀ (w : List Int32) (i : Nat), (∀ k, k < w.length → a (i + k) = w.getD k 0) → sgl a i w.length = w
  | [], _, _ => rfl
  | x :: xs, i, h => by
    show a i :: sgl a (i + 1) xs.length = x :: xs
    have h0 := h 0 (by simp)
    rw [Nat.add_zero] at h0
    rw [h0, sg_list xs (i + 1) (fun k hk => by
      have := h (k + 1) (by simp; omega)
      rw [show i + 1 + k = i + (k + 1) by omega, this]
      rfl)]
    rfl
theorem sg_row {a : Nat → Int32} {w : List Int32} (h : ∀ k, k < w.length → a k = w.getD k 0) : sg a 0 w.length = w := by
  unfold sg
  rw [Nat.sub_zero]
  exact sg_list w 0 (fun k hk => by rw [Nat.zero_add]; exact h k hk)
theorem ChD.tau {G : Gm} {χ τ τ' : Nat → Nat → Int32} {C : Nat → List Int32} {V : Nat → Prop} {us : List Nat} {D : Nat} (h : ChD G χ τ C V us D) (e : ∀ c, c ≠ 5 → c ≠ 6 → τ' c = τ c) : ChD G χ τ' C V us D := by
  obtain ⟨d1, d2, d3, d4, d5, d6, d7, d8⟩ := h
  refine ⟨d1, d2, d3, d4, d5, d6, ⟨fun s hs i j hij hj => ?_, fun D' hD' => (d7.2.1 D' hD').frame e, d7.2.2⟩, fun t ht => by rw [e 3 (by decide) (by decide)]; exact d8 t ht⟩
  obtain ⟨v, p, h1, h2, h3, h4⟩ := d7.1 s hs i j hij hj
  exact ⟨v, p, h1, h2, h3.frame (fun t _ => ⟨Iff.rfl, rfl, by rw [e 1 (by decide) (by decide)]⟩), h4⟩
/-- a tree of a cell spelled, or nothing -/
theorem ChD.spell {N n : Nat} (hN : 151 ≤ N) (hn : n ≤ 1000) (hn2 : 150 ≤ n) {G : Gm} {χ τ π : Nat → Nat → Int32} {C : Nat → List Int32} {V : Nat → Prop} {us : List Nat} {D : Nat} (h : ChD G χ τ C V us D) {s j : Nat} (hs : s < 6) (h0 : 0 < j) (hj : j ≤ D) {p : List (List Int32)} (hp : Pair τ C V (cO s 0 j) p) {b : Nat} (hb : b < 2) :
    ∃ τ' π', (∀ c, c ≠ 5 → c ≠ 6 → τ' c = τ c) ∧ SyL n π' (p.getD b []) ∧ m_Ch_spell N n χ τ π (nI s) (nI b) (nI j) = some (τ', π') := by
  have d2 := h.2.1
  have hc := cO_lt hs h0 (show j ≤ 12 by omega)
  have hT := h.2.2.2.2.2.2.1.2.1 D (Nat.le_refl _)
  have hcol : Col D (2 * cO s 0 j + b) := ⟨s, hs, 0, j, h0, hj, by
    have : b = 0 ∨ b = 1 := by omega
    rcases this with rfl | rfl
    · exact Or.inl rfl
    · exact Or.inr rfl⟩
  have hp2 : Pair τ C (VC V D) (cO s 0 j) p := hp.frame (fun t ht => ⟨⟨fun q => q.1, fun q => ⟨q, s, hs, 0, j, h0, hj, ht⟩⟩, rfl, rfl⟩)
  have etree : m_Tt_treeOf (nI (cO s 0 j)) (nI b) = some (nI (2 * cO s 0 j + b)) := by
    unfold m_Tt_treeOf f_Tt_treeOf_0
    rw [l_2, pk_mul, nI_add]
  unfold m_Ch_spell f_Ch_spell_0
  rw [← nI_0, p_cellOf hs h0 (by omega), b1_some, etree, b1_some]
  rcases hp2.get hT hb with ⟨q1, q2, q3, q4⟩ | ⟨q1, q2, q3⟩
  · have hlen := (h.2.2.2.2.2.2.1.2.2 _ q1.1).2
    obtain ⟨τ', π', a1, a2, a3⟩ := p_spell (π := π) hN hn hT q1 hlen (by omega)
    refine ⟨τ', π', fun c h5 _ => a1 c h5, ?_, ?_⟩
    · rw [List.getD_eq_getElem?_getD, q2]
      exact a2
    · rw [a3, b2_some]
  · refine ⟨τ, _, fun _ _ _ => rfl, ?_, by rw [p_spell_no (by omega) q3, b2_some]⟩
    rw [List.getD_eq_getElem?_getD, q2]
    exact SyL.nil n π
theorem p_isTreeOfRow {N n : Nat} (hN : 1001 ≤ N) (hn : n ≤ 200) {x γ ω g σ ρ π : Nat → Nat → Int32} {G : Gm} (hG : GrOK γ G) {w c : List Int32} (hw : SyL 12 ρ w) (hwo : ∀ z, z ∈ w → okSym (gV G) z) (hp : SyL n π c) {s : Nat} (hs : s < 6) (hc : Sy G s w c) : ∃ ω' g' σ', m_Rt_isTreeOfRow N 12 12 12 n x γ ω g σ ρ π (nI s) = some (1, ω', g', σ') := by
  obtain ⟨r1, r2⟩ := Sy_read hG.1 hc hwo
  unfold m_Rt_isTreeOfRow f_Rt_isTreeOfRow_0
  rcases p_judge (N := N) (ω := ω) (g := g) (σ := σ) (by omega) hn hG hp hs with ⟨v, pl, ω', a1, a2, _⟩ | ⟨pl, y, ω', g', σ', a1, a2, a3, ⟨a4, a5, a6⟩ | ⟨a4, _⟩⟩
  · exact absurd (rdr_uniq a1 r1).1 a2
  · have ey : y = w := by
      rw [r2] at a2
      simpa using a2.symm
    subst ey
    rw [a6, b4_some, if_pos rfl, p_isSameAs hN (by omega) (by omega) a5 hw, b1_some, if_neg (by decide)]
    exact ⟨ω', g', σ', rfl⟩
  · have ey : y = w := by
      rw [r2] at a2
      simpa using a2.symm
    have := hw.2.1
    rw [ey] at a4
    omega
theorem getD_01 {p : List (List Int32)} (hl : p.length ≤ 2) : (p = [] ∨ ∃ a t, p = a :: t) := by
  match p with
  | [] => exact Or.inl rfl
  | a :: t => exact Or.inr ⟨a, t, rfl⟩
theorem p_isSound {N : Nat} (hN : 1001 ≤ N) {x γ χ τ ω g σ ρ ll nn : Nat → Nat → Int32} {G : Gm} (hG : GrOK γ G) {w : List Int32} (hw : SyL 12 ρ w) (hwo : ∀ z, z ∈ w → okSym (gV G) z) {C : Nat → List Int32} {V : Nat → Prop} {us : List Nat} {D : Nat} (h : ChD G χ τ C V us D) (hD : w.length ≤ D) (hk : ∀ k, k < w.length → χ 2 k = w.getD k 0) {s : Nat} (hs : s < 6) :
    ∃ τ' ω' g' σ' l' n', (∀ c, c ≠ 5 → c ≠ 6 → τ' c = τ c) ∧ m_Rt_isSound N 12 12 12 150 150 x γ χ τ ω g σ ρ ll nn (nI s) = some (1, τ', ω', g', σ', l', n') := by
  have hl := hw.2.1
  unfold m_Rt_isSound f_Rt_isSound_0
  rw [hw.1]
  by_cases z : w.length = 0
  · rw [if_pos (of_eq_true (c_eq0 z))]
    exact ⟨τ, ω, g, σ, ll, nn, fun _ _ _ => rfl, rfl⟩
  · rw [if_neg (nI_ne0 (by omega) (by omega))]
    obtain ⟨v, p, c1, c2, c3, c4⟩ := h.cell hs (show 0 < w.length by omega) hD
    rw [sg_row hk] at c2 c4
    have hvle := c2.le
    have hwy : m_Ch_waysOf χ (nI s) 0 (nI w.length) = some (nI v) := by
      rw [← nI_0, p_waysOf hs (by omega) (by omega), c1]
    obtain ⟨τ1, l1, a1, a2, a3⟩ := h.spell (N := N) (n := 150) (π := ll) (by omega) (by omega) (by omega) hs (show 0 < w.length by omega) hD c3 (b := 0) (by omega)
    have c3' : Pair τ1 C V (cO s 0 w.length) p := c3.frame (fun t _ => ⟨Iff.rfl, rfl, by rw [a1 1 (by decide) (by decide)]⟩)
    obtain ⟨τ2, n1, b1, b2, b3⟩ := (h.tau a1).spell (N := N) (n := 150) (π := nn) (by omega) (by omega) (by omega) hs (show 0 < w.length by omega) hD c3' (b := 1) (by omega)
    rw [nI_0] at a3
    have fr : ∀ c, c ≠ 5 → c ≠ 6 → τ2 c = τ c := fun c h5 h6 => by rw [b1 c h5 h6, a1 c h5 h6]
    rw [hwy, b1_some, a3, b2_some, show (1 : Int32) = nI 1 from rfl, b3, b2_some, a2.1, ← show (1 : Int32) = nI 1 from rfl]
    rcases c4.shape with ⟨rfl, e⟩ | ⟨a, rfl, e1, e2⟩ | ⟨a, b, rfl, e1, e2, e3, e4⟩
    · -- none
      have v0 : v = 0 := c2.zero.mpr e
      subst v0
      rw [List.getD_nil, List.length_nil, if_pos (of_eq_true (c_le0_t rfl))]
      unfold f_Rt_isSound_84
      rw [b2.1, List.getD_nil, List.length_nil, if_pos (of_eq_true (c_le0_t rfl)), if_pos (of_eq_true (c_le0_t rfl))]
      unfold f_Rt_isSound_112
      rw [if_pos rfl, if_pos (by decide)]
      unfold f_Rt_isSound_127
      rw [if_pos rfl, if_pos rfl]
      unfold f_Rt_isSound_150
      rw [if_pos rfl]
      exact ⟨τ2, ω, g, σ, l1, n1, fr, rfl⟩
    · -- one
      have hv1 : ¬ 1 < v := by
        rw [c2.two]
        rintro ⟨y1, y2, h1, h2, h3⟩
        exact h3 ((e2 y1 h1).trans (e2 y2 h2).symm)
      have hv0 : v ≠ 0 := fun q => c2.zero.mp q a e1
      have ev : v = 1 := by omega
      subst ev
      have ha := Sy_ne e1
      have hal : 0 < a.length := List.length_pos_iff.mpr ha
      have g0 : ([a] : List (List Int32)).getD 0 [] = a := rfl
      have g1 : ([a] : List (List Int32)).getD 1 [] = [] := rfl
      rw [g0] at a2 ⊢
      rw [g1] at b2
      have hab := a2.2.1
      rw [if_neg (of_eq_false (c_le0 hal (by omega)))]
      unfold f_Rt_isSound_84
      rw [b2.1, List.length_nil, if_pos (of_eq_true (c_le0_t rfl)), if_neg (by decide)]
      unfold f_Rt_isSound_112
      rw [if_pos rfl, if_pos (by decide)]
      unfold f_Rt_isSound_127
      rw [if_pos rfl, if_neg (by decide)]
      obtain ⟨ω', g', σ', t1⟩ := p_isTreeOfRow (x := x) (ω := ω) (g := g) (σ := σ) hN (by omega) hG hw hwo a2 hs e1
      rw [t1, b4_some, if_neg (by decide)]
      unfold f_Rt_isSound_150
      rw [if_pos rfl]
      exact ⟨τ2, ω', g', σ', l1, n1, fr, rfl⟩
    · -- two
      have hv1 : 1 < v := c2.two.mpr ⟨a, b, e1, e2, cl_ne e3⟩
      have hal : 0 < a.length := List.length_pos_iff.mpr (Sy_ne e1)
      have hbl : 0 < b.length := List.length_pos_iff.mpr (Sy_ne e2)
      have g0 : ([a, b] : List (List Int32)).getD 0 [] = a := rfl
      have g1 : ([a, b] : List (List Int32)).getD 1 [] = b := rfl
      rw [g0] at a2 ⊢
      rw [g1] at b2
      have hab := a2.2.1
      have hbb := b2.2.1
      rw [if_neg (of_eq_false (c_le0 hal (by omega)))]
      unfold f_Rt_isSound_84
      rw [b2.1, if_neg (of_eq_false (c_le0 hbl (by omega))), if_neg (of_eq_false (c_le0 (by omega) (by omega)))]
      unfold f_Rt_isSound_112
      rw [if_pos rfl, if_neg (fun q => by
        rw [show (1 : Int32) = nI 1 from rfl, i_le (by omega) (by omega)] at q
        omega)]
      unfold f_Rt_isSound_127
      rw [if_pos rfl, if_neg (by decide)]
      obtain ⟨ω', g', σ', t1⟩ := p_isTreeOfRow (x := x) (ω := ω) (g := g) (σ := σ) hN (by omega) hG hw hwo a2 hs e1
      rw [t1, b4_some, if_neg (by decide)]
      unfold f_Rt_isSound_150
      obtain ⟨ω2, g2, σ2, t2⟩ := p_isTreeOfRow (x := x) (ω := ω') (g := g') (σ := σ') hN (by omega) hG hw hwo b2 hs e2
      rw [if_neg (by decide), t2, b4_some, if_neg (by decide), p_isLessThan hN (by omega) (by omega) a2 b2 e3, b1_some, if_neg (by decide)]
      exact ⟨τ2, ω2, g2, σ2, l1, n1, fr, rfl⟩
theorem p_check_13 {N : Nat} (hN : 1001 ≤ N) {x γ χ ρ : Nat → Nat → Int32} {G : Gm} (hG : GrOK γ G) {w : List Int32} (hw : SyL 12 ρ w) (hwo : ∀ z, z ∈ w → okSym (gV G) z) {C : Nat → List Int32} {V : Nat → Prop} {us : List Nat} {D : Nat} (hD : w.length ≤ D) (hk : ∀ k, k < w.length → χ 2 k = w.getD k 0)
    (kx0 kx1 : (Nat → Nat → Int32) → (Nat → Nat → Int32) → (Nat → Nat → Int32) → (Nat → Nat → Int32) → (Nat → Nat → Int32) → (Nat → Nat → Int32) → Option (Int32 × (Nat → Nat → Int32) × (Nat → Nat → Int32) × (Nat → Nat → Int32) × (Nat → Nat → Int32) × (Nat → Nat → Int32) × (Nat → Nat → Int32) × (Nat → Nat → Int32))) :
    ∀ (d s f : Nat) (τ ω g σ ll nn : Nat → Nat → Int32), s + d = gS G → d < f → ChD G χ τ C V us D → ∃ τ' ω' g' σ' l' n', ChD G χ τ' C V us D ∧ l_Rt_check_13 N 12 12 12 150 150 x γ χ ρ kx0 kx1 f τ ω g σ ll nn (nI s) = kx1 τ' ω' g' σ' l' n' := by
  have h6 := hG.1.1
  intro d
  induction d with
  | zero =>
    intro s f τ ω g σ ll nn hs hf h
    obtain ⟨f, rfl⟩ : ∃ m, f = m + 1 := ⟨f - 1, by omega⟩
    have : s = gS G := by omega
    subst this
    refine ⟨τ, ω, g, σ, ll, nn, h, ?_⟩
    unfold l_Rt_check_13 f_Rt_check_13
    rw [hG.2.1, if_pos (nI_le (Nat.le_refl _) (by omega))]
  | succ d ih =>
    intro s f τ ω g σ ll nn hs hf h
    obtain ⟨f, rfl⟩ : ∃ m, f = m + 1 := ⟨f - 1, by omega⟩
    obtain ⟨τ1, ω1, g1, σ1, l1, n1, a1, a2⟩ := p_isSound (x := x) (ω := ω) (g := g) (σ := σ) (ll := ll) (nn := nn) hN hG hw hwo h hD hk (show s < 6 by omega)
    obtain ⟨τ', ω', g', σ', l', n', b1, b2⟩ := ih (s + 1) f τ1 ω1 g1 σ1 l1 n1 (by omega) (by omega) (h.tau a1)
    refine ⟨τ', ω', g', σ', l', n', b1, ?_⟩
    unfold l_Rt_check_13 f_Rt_check_13
    rw [hG.2.1, if_neg (nI_ge (by omega) (by omega)), a2]
    rw [b7_some, if_neg (by decide), nm_d, nI_1]
    exact b2
theorem p_Rt_check {N : Nat} (hN : 1001 ≤ N) {x γ χ τ ω g σ ρ ll nn : Nat → Nat → Int32} {G : Gm} (hG : GrOK γ G) {w : List Int32} (hw : SyL 12 ρ w) (hwo : ∀ z, z ∈ w → okSym (gV G) z) (h : ChR G χ τ) :
    ∃ χ' τ' ω' g' σ' l' n', ChR G χ' τ' ∧ m_Rt_check N 12 12 12 150 150 x γ χ τ ω g σ ρ ll nn = some (1, χ', τ', ω', g', σ', l', n') := by
  have h6 := hG.1.1
  obtain ⟨χ1, τ1, C, V, us, D, a1, a2, a3, a4⟩ := p_catchUp (N := N) (by omega) hG hw hwo h
  obtain ⟨τ', ω', g', σ', l', n', b1, b2⟩ := p_check_13 (x := x) hN hG hw hwo a2 a3 (fun s_table s_grower s_grown s_joined s_least s_next => f_Rt_check_32 N 12 12 12 150 150 x γ χ1 s_table s_grower s_grown s_joined ρ s_least s_next) (fun s_table s_grower s_grown s_joined s_least s_next => f_Rt_check_40 N 12 12 12 150 150 x γ χ1 s_table s_grower s_grown s_joined ρ s_least s_next) (gS G) 0 N τ1 ω g σ ll nn (by omega) (by omega) a1
  refine ⟨χ1, τ', ω', g', σ', l', n', b1.r, ?_⟩
  unfold m_Rt_check f_Rt_check_0
  rw [a4, b2_some, ← nI_0]
  exact b2
