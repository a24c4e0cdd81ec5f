theorem take_add1 {us : List Nat} {u r : Nat} (hu : us[u]? = some r) : us.take (u + 1) = us.take u ++ [r] := by
  obtain ⟨h1, e1⟩ := List.getElem?_eq_some_iff.mp hu
  rw [List.take_succ_eq_append_getElem h1, e1]
theorem p_offerUnit {N : Nat} (hN : 151 ≤ N) {γ χ : Nat → Nat → Int32} {G : Gm} (hG : GrOK γ G) {i j : Nat} (hij : i < j) (hj : j ≤ 12) {us : List Nat} (hus : us.Nodup) (hum : ∀ r, r ∈ us → r < gR G ∧ isU G r) {y : List Int32} {Q0 Q : Nat → Prop} (hQ0 : ∀ t, Q0 t → ∀ s, s < 6 → t ≠ 2 * cO s i j ∧ t ≠ 2 * cO s i j + 1) {z u r : Nat} (hz : 1 ≤ z) (hz2 : z ≤ 150) (hur : us[u]? = some r) {τ : Nat → Nat → Int32} {C : Nat → List Int32} {V : Nat → Prop} {P : Nat → List (List Int32)} (hI : UIv G i j us y Q0 Q z u 0 τ C V P) :
    ∃ τ' C' V' P', UIv G i j us y Q0 Q z (u + 1) 0 τ' C' V' P' ∧ FrS i j χ τ C V χ τ' C' V' ∧ (∀ t, Q t → C' t = C t) ∧ m_Ch_offerUnit N χ γ τ (nI r) (nI i) (nI j) (nI z) = some τ' := by
  have hrm : r ∈ us := List.mem_of_getElem? hur
  obtain ⟨hr, hu⟩ := hum r hrm
  have hs : grs G r < 6 := by
    have h1 := (hG.1.2.2.2.2 r hr).1
    have h2 := hG.1.1
    omega
  have ht6 := uS_lt6 hG.1 hr hu
  have h1 : 0 < (dv (gry G r)).length := by
    rw [((isU_iff r).mp hu).2]
    omega
  obtain ⟨τ', C', V', P', g1, g2, g3, g4⟩ := p_offerUnit_34 hN (χ := χ) hG hij hj hus hum hQ0 hz hz2 hur (fun s_table => f_Ch_offerUnit_97 N χ γ s_table) 2 0 N τ C V P (by omega) (by omega) hI
  refine ⟨τ', C', V', P', ?_, g2, g3, ?_⟩
  · obtain ⟨a1, a2, a3, a4, a5, a6⟩ := g1
    refine ⟨a1, a2, fun s hs' => (a3 s hs').congr (fun e => ?_), a4, a5, a6⟩
    constructor
    · rintro (q | ⟨r', b, c, q1, q2, q3, q4, q5, q6, q7⟩)
      · exact Or.inl q
      · refine Or.inr ⟨r', b, c, q1, q2, q3, q4, q5, ?_, q7⟩
        rcases q6 with q6 | q6 | ⟨q6, q8⟩
        · exact Or.inl q6
        · exact Or.inr (Or.inl (by rw [take_add1 hur]; simp [q6]))
        · rw [hur] at q6
          injection q6 with q6
          exact Or.inr (Or.inl (by rw [take_add1 hur]; simp [q6]))
    · rintro (q | ⟨r', b, c, q1, q2, q3, q4, q5, q6, q7⟩)
      · exact Or.inl q
      · refine Or.inr ⟨r', b, c, q1, q2, q3, q4, q5, ?_, q7⟩
        rcases q6 with q6 | q6 | ⟨q6, q8⟩
        · exact Or.inl q6
        · rw [take_add1 hur] at q6
          rcases List.mem_append.mp q6 with q6 | q6
          · exact Or.inr (Or.inl q6)
          · simp only [List.mem_cons, List.not_mem_nil, or_false] at q6
            subst q6
            exact Or.inr (Or.inr ⟨hur, (a2 _ ht6).le2 q3⟩)
        · omega
  · unfold m_Ch_offerUnit f_Ch_offerUnit_0
    have e0 := g_slotSort hG hr h1
    rw [uS_slot hu, nI_0] at e0
    rw [g_sort_r hG hr, b1_some, p_cellOf hs hij hj, b1_some, e0, b1_some, p_cellOf ht6 hij hj, b1_some]
    rw [nI_0] at g4
    exact g4
theorem p_addUnitTrees_26 {N : Nat} (hN : 151 ≤ N) {γ χ : Nat → Nat → Int32} {G : Gm} (hG : GrOK γ G) {i j : Nat} (hij : i < j) (hj : j ≤ 12) {us : List Nat} (hus : us.Nodup) (hul : us.length ≤ 30) (hum : ∀ r, r ∈ us → r < gR G ∧ isU G r) (hc7 : χ 0 7 = nI us.length) (hc3 : ∀ k, k < us.length → χ 3 k = nI (us.getD k 0)) {y : List Int32} {Q0 Q : Nat → Prop} (hQ0 : ∀ t, Q0 t → ∀ s, s < 6 → t ≠ 2 * cO s i j ∧ t ≠ 2 * cO s i j + 1) {z : Nat} (hz : 1 ≤ z) (hz2 : z ≤ 150) (v4 : Int32) (kx : (Nat → Nat → Int32) → Option (Nat → Nat → Int32)) :
    ∀ (d u n : Nat) (τ : Nat → Nat → Int32) (C : Nat → List Int32) (V : Nat → Prop) (P : Nat → List (List Int32)), u + d = us.length → d < n → UIv G i j us y Q0 Q z u 0 τ C V P →
      ∃ τ' C' V' P', UIv G i j us y Q0 Q z us.length 0 τ' C' V' P' ∧ FrS i j χ τ C V χ τ' C' V' ∧ (∀ t, Q t → C' t = C t) ∧ l_Ch_addUnitTrees_26 N χ γ (nI i) (nI j) (nI z) v4 kx n τ (nI u) = kx τ' := by
  intro d
  induction d with
  | zero =>
    intro u n τ C V P hu hn hI
    obtain ⟨m, rfl⟩ : ∃ m, n = m + 1 := ⟨n - 1, by omega⟩
    have : u = us.length := by omega
    subst this
    refine ⟨τ, C, V, P, hI, FrS.refl _ _ _ _ _ _, fun _ _ => rfl, ?_⟩
    unfold l_Ch_addUnitTrees_26 f_Ch_addUnitTrees_26
    rw [hc7, if_pos (nI_le (Nat.le_refl _) (by omega))]
  | succ d ih =>
    intro u n τ C V P hu hn hI
    obtain ⟨m, rfl⟩ : ∃ m, n = m + 1 := ⟨n - 1, by omega⟩
    have hur : us[u]? = some (us.getD u 0) := by
      rw [List.getD_eq_getElem?_getD, List.getElem?_eq_getElem (by omega)]
      rfl
    obtain ⟨τ1, C1, V1, P1, g1, g2, g3, g4⟩ := p_offerUnit hN (χ := χ) hG hij hj hus hum hQ0 hz hz2 hur hI
    obtain ⟨τ', C', V', P', k1, k2, k3, k4⟩ := ih (u + 1) m τ1 C1 V1 P1 (by omega) (by omega) g1
    refine ⟨τ', C', V', P', k1, g2.trans k2, fun t ht => by rw [k3 t ht, g3 t ht], ?_⟩
    unfold l_Ch_addUnitTrees_26 f_Ch_addUnitTrees_26
    rw [hc7, if_neg (nI_ge (by omega) (by omega)), ck_n (by omega) (by omega), nI_clamp (by omega), hc3 u (by omega), g4, b1_some, nm_d, nI_1]
    exact k4
/-! the next size -/
def NS (f : Nat → Nat) (ab l q : Nat) : Prop := (l = 0 ∧ ∀ k, k < q → f k ≤ ab) ∨ (ab < l ∧ (∃ k, k < q ∧ f k = l) ∧ ∀ k, k < q → f k ≤ ab ∨ l ≤ f k)
theorem p_nextSize_16 {N : Nat} {χ τ : Nat → Nat → Int32} {i j : Nat} (hij : i < j) (hj : j ≤ 12) {f : Nat → Nat} (hf : ∀ s, s < 6 → ∀ b, b < 2 → τ 1 (2 * cO s i j + b) = nI (f (2 * s + b)) ∧ f (2 * s + b) ≤ 150) {ab s : Nat} (hs : s < 6) (hab : ab ≤ 150) (kx : Int32 → Option Int32) :
    ∀ (d b n l : Nat), b + d = 2 → d < n → l ≤ 150 → NS f ab l (2 * s + b) → ∃ l', l' ≤ 150 ∧ NS f ab l' (2 * s + 2) ∧ l_Ch_nextSize_16 N χ τ (nI i) (nI j) (nI ab) (nI s) kx n (nI l) (nI b) = kx (nI l') := by
  have hc := cO_lt hs hij hj
  intro d
  induction d with
  | zero =>
    intro b n l hb hn hl h
    obtain ⟨m, rfl⟩ : ∃ m, n = m + 1 := ⟨n - 1, by omega⟩
    have : b = 2 := by omega
    subst this
    refine ⟨l, hl, h, ?_⟩
    unfold l_Ch_nextSize_16 f_Ch_nextSize_16
    rw [l_2, if_pos (nI_le (Nat.le_refl _) (by omega))]
  | succ d ih =>
    intro b n l hb hn hl h
    obtain ⟨m, rfl⟩ : ∃ m, n = m + 1 := ⟨n - 1, by omega⟩
    obtain ⟨f1, f2⟩ := hf s hs b (by omega)
    have etree : m_Tt_treeOf (nI (cO s i j)) (nI b) = some (nI (2 * cO s i j + b)) := by
      unfold m_Tt_treeOf f_Tt_treeOf_0
      rw [l_2, pk_mul, nI_add]
    have go : ∀ l1, l1 ≤ 150 → NS f ab l1 (2 * s + (b + 1)) → l_Ch_nextSize_16 N χ τ (nI i) (nI j) (nI ab) (nI s) kx (m + 1) (nI l) (nI b) = l_Ch_nextSize_16 N χ τ (nI i) (nI j) (nI ab) (nI s) kx m (nI l1) (nI (b + 1)) → ∃ l', l' ≤ 150 ∧ NS f ab l' (2 * s + 2) ∧ l_Ch_nextSize_16 N χ τ (nI i) (nI j) (nI ab) (nI s) kx (m + 1) (nI l) (nI b) = kx (nI l') := by
      intro l1 h1 h2 h3
      obtain ⟨l', q1, q2, q3⟩ := ih (b + 1) m l1 (by omega) (by omega) h1 h2
      exact ⟨l', q1, q2, h3.trans q3⟩
    have step : l_Ch_nextSize_16 N χ τ (nI i) (nI j) (nI ab) (nI s) kx (m + 1) (nI l) (nI b) = f_Ch_nextSize_16 N (l_Ch_nextSize_16 N χ τ (nI i) (nI j) (nI ab) (nI s) kx m) kx χ τ (nI i) (nI j) (nI ab) (nI l) (nI s) (nI b) := rfl
    unfold f_Ch_nextSize_16 at step
    rw [l_2, if_neg (nI_ge (by omega) (by omega)), p_cellOf hs hij hj, b1_some, etree, b1_some, p_sizeAt (by omega), b1_some, f1] at step
    by_cases c1 : f (2 * s + b) ≤ ab
    · refine go l hl ?_ ?_
      · rcases h with ⟨h1, h2⟩ | ⟨h1, ⟨k, k1, k2⟩, h3⟩
        · refine Or.inl ⟨h1, fun q hq => ?_⟩
          by_cases e : q = 2 * s + b
          · rw [e]; exact c1
          · exact h2 q (by omega)
        · refine Or.inr ⟨h1, ⟨k, by omega, k2⟩, fun q hq => ?_⟩
          by_cases e : q = 2 * s + b
          · rw [e]; exact Or.inl c1
          · exact h3 q (by omega)
      · rw [step, if_pos (nI_le c1 (by omega)), nm_d, nI_1]
    · rw [if_neg (nI_ge (by omega) (by omega))] at step
      by_cases c2 : l = 0
      · refine go (f (2 * s + b)) f2 ?_ ?_
        · rcases h with ⟨h1, h2⟩ | ⟨h1, _⟩
          · refine Or.inr ⟨by omega, ⟨2 * s + b, by omega, rfl⟩, fun q hq => ?_⟩
            by_cases e : q = 2 * s + b
            · rw [e]; exact Or.inr (Nat.le_refl _)
            · exact Or.inl (h2 q (by omega))
          · omega
        · rw [step, if_pos (of_eq_true (c_eq0 c2)), nm_d, nI_1]
      · rw [if_neg (nI_ne0 (by omega) (by omega))] at step
        obtain ⟨h1, ⟨k, k1, k2⟩, h3⟩ := h.resolve_left (fun q => c2 q.1)
        by_cases c3 : l ≤ f (2 * s + b)
        · refine go l hl ?_ ?_
          · refine Or.inr ⟨h1, ⟨k, by omega, k2⟩, fun q hq => ?_⟩
            by_cases e : q = 2 * s + b
            · rw [e]; exact Or.inr c3
            · exact h3 q (by omega)
          · rw [step, if_pos (nI_le c3 (by omega)), nm_d, nI_1]
        · refine go (f (2 * s + b)) f2 ?_ ?_
          · refine Or.inr ⟨by omega, ⟨2 * s + b, by omega, rfl⟩, fun q hq => ?_⟩
            by_cases e : q = 2 * s + b
            · rw [e]; exact Or.inr (Nat.le_refl _)
            · rcases h3 q (by omega) with h | h
              · exact Or.inl h
              · exact Or.inr (by omega)
          · rw [step, if_neg (nI_ge (by omega) (by omega)), nm_d, nI_1]
theorem p_nextSize_6 {N : Nat} (hN : 3 ≤ N) {χ τ : Nat → Nat → Int32} {i j : Nat} (hij : i < j) (hj : j ≤ 12) {f : Nat → Nat} (hf : ∀ s, s < 6 → ∀ b, b < 2 → τ 1 (2 * cO s i j + b) = nI (f (2 * s + b)) ∧ f (2 * s + b) ≤ 150) {ab : Nat} (hab : ab ≤ 150) (kx : Int32 → Option Int32) :
    ∀ (d s n l : Nat), s + d = 6 → d < n → l ≤ 150 → NS f ab l (2 * s) → ∃ l', l' ≤ 150 ∧ NS f ab l' 12 ∧ l_Ch_nextSize_6 N χ τ (nI i) (nI j) (nI ab) kx n (nI l) (nI s) = kx (nI l') := by
  intro d
  induction d with
  | zero =>
    intro s n l hs hn hl h
    obtain ⟨m, rfl⟩ : ∃ m, n = m + 1 := ⟨n - 1, by omega⟩
    have : s = 6 := by omega
    subst this
    refine ⟨l, hl, h, ?_⟩
    unfold l_Ch_nextSize_6 f_Ch_nextSize_6
    rw [l_6, if_pos (nI_le (Nat.le_refl _) (by omega))]
  | succ d ih =>
    intro s n l hs hn hl h
    obtain ⟨m, rfl⟩ : ∃ m, n = m + 1 := ⟨n - 1, by omega⟩
    obtain ⟨l1, q1, q2, q3⟩ := p_nextSize_16 (N := N) (χ := χ) hij hj hf (show s < 6 by omega) hab (fun v4 => f_Ch_nextSize_71 N (l_Ch_nextSize_6 N χ τ (nI i) (nI j) (nI ab) kx m) kx χ τ (nI i) (nI j) (nI ab) v4 (nI s)) 2 0 N l (by omega) (by omega) hl h
    obtain ⟨l', p1, p2, p3⟩ := ih (s + 1) m l1 (by omega) (by omega) q1 q2
    refine ⟨l', p1, p2, ?_⟩
    unfold l_Ch_nextSize_6 f_Ch_nextSize_6
    rw [l_6, if_neg (nI_ge (by omega) (by omega)), ← nI_0, q3]
    unfold f_Ch_nextSize_71
    rw [nm_d, nI_1]
    exact p3
theorem p_nextSize {N : Nat} (hN : 7 ≤ N) {χ τ : Nat → Nat → Int32} {i j : Nat} (hij : i < j) (hj : j ≤ 12) {f : Nat → Nat} (hf : ∀ s, s < 6 → ∀ b, b < 2 → τ 1 (2 * cO s i j + b) = nI (f (2 * s + b)) ∧ f (2 * s + b) ≤ 150) {ab : Nat} (hab : ab ≤ 150) : ∃ l, l ≤ 150 ∧ NS f ab l 12 ∧ m_Ch_nextSize N χ τ (nI i) (nI j) (nI ab) = some (nI l) := by
  obtain ⟨l, p1, p2, p3⟩ := p_nextSize_6 (N := N) (by omega) (χ := χ) hij hj hf hab (fun v4 => f_Ch_nextSize_77 N χ τ v4) 6 0 N 0 (by omega) (by omega) (by omega) (Or.inl ⟨rfl, fun k hk => by omega⟩)
  refine ⟨l, p1, p2, ?_⟩
  unfold m_Ch_nextSize f_Ch_nextSize_0
  rw [nI_0] at p3
  exact p3
