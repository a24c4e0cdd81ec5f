/-! ways by unit rules -/
def WS (χ : Nat → Nat → Int32) (i j : Nat) (B : Nat → List Int32 → Prop) : Prop := ∀ s, s < 6 → ∃ v, χ 1 (cO s i j) = nI v ∧ Cnt (B s) v
def Rl (G : Gm) (A : Nat → List Int32 → Prop) (us : List Nat) (u s : Nat) (y e : List Int32) : Prop := Bs G s y e ∨ ∃ r, r ∈ us.take u ∧ grs G r = s ∧ ∃ d, A (uS G r) d ∧ e = nI r :: d
/-- where the ways of one stretch may change -/
def Fw (i j : Nat) (χ χ' : Nat → Nat → Int32) : Prop := (∀ b, b ≠ 1 → b ≠ 7 → χ' b = χ b) ∧ ∀ k, (∀ s, s < 6 → k ≠ cO s i j) → χ' 1 k = χ 1 k
theorem Fw.refl (i j : Nat) (χ : Nat → Nat → Int32) : Fw i j χ χ := ⟨fun _ _ _ => rfl, fun _ _ => rfl⟩
theorem Fw.trans {i j : Nat} {χ χ' χ'' : Nat → Nat → Int32} (h : Fw i j χ χ') (k : Fw i j χ' χ'') : Fw i j χ χ'' :=
  ⟨fun b h1 h7 => by rw [k.1 b h1 h7, h.1 b h1 h7], fun z hz => by rw [k.2 z hz, h.2 z hz]⟩
theorem p_addUnitWays_2 {N : Nat} {γ : Nat → Nat → Int32} {i j : Nat} (hij : i < j) (hj : j ≤ 12) (kx : (Nat → Nat → Int32) → Option (Nat → Nat → Int32)) : ∀ (d s n : Nat) (χ : Nat → Nat → Int32), s + d = 6 → d < n → (∀ t, t < s → χ 7 t = χ 1 (cO t i j)) → ∃ χ', (∀ b, b ≠ 7 → χ' b = χ b) ∧ (∀ t, t < 6 → χ' 7 t = χ 1 (cO t i j)) ∧ l_Ch_addUnitWays_2 N γ (nI i) (nI j) kx n χ (nI s) = kx χ' := by
  intro d
  induction d with
  | zero =>
    intro s n χ hs hn h
    obtain ⟨m, rfl⟩ : ∃ m, n = m + 1 := ⟨n - 1, by omega⟩
    have : s = 6 := by omega
    subst this
    refine ⟨χ, fun _ _ => rfl, h, ?_⟩
    unfold l_Ch_addUnitWays_2 f_Ch_addUnitWays_2
    rw [l_6, if_pos (nI_le (Nat.le_refl _) (by omega))]
  | succ d ih =>
    intro s n χ hs hn h
    obtain ⟨m, rfl⟩ : ∃ m, n = m + 1 := ⟨n - 1, by omega⟩
    obtain ⟨χ', g1, g2, g3⟩ := ih (s + 1) m (st2 χ 7 s (χ 1 (cO s i j))) (by omega) (by omega) (fun t ht => by
      rw [show st2 χ 7 s (χ 1 (cO s i j)) 1 (cO t i j) = χ 1 (cO t i j) from st2_aj _ _ _ _ (by decide)]
      by_cases e : t = s
      · rw [e, st2_s]
      · rw [st2_k _ _ _ e]
        exact h t (by omega))
    refine ⟨χ', fun b hb => by rw [g1 b hb, st2_a _ _ _ hb], fun t ht => by rw [g2 t ht, st2_aj _ _ _ _ (by decide)], ?_⟩
    unfold l_Ch_addUnitWays_2 f_Ch_addUnitWays_2
    rw [l_6, if_neg (nI_ge (by omega) (by omega)), p_waysOf (by omega) hij hj, b1_some, ck_n (by omega) (by omega), nm_d, nI_clamp (by omega), nm_d, nI_1]
    exact g3
theorem Rl_next {G : Gm} (hR : gR G ≤ 30) {A : Nat → List Int32 → Prop} {us : List Nat} (hus : us.Nodup) (hum : ∀ r, r ∈ us → r < gR G ∧ isU G r) {u r s : Nat} (hur : us[u]? = some r) {y : List Int32} {n m : Nat} (h : Cnt (Rl G A us u s y) n) (k : Cnt (A (uS G r)) m) (hs : grs G r = s) : Cnt (Rl G A us (u + 1) s y) (wplus n m) := by
  obtain ⟨hr, hu⟩ := hum r (List.mem_of_getElem? hur)
  refine (h.union (k.cons (nI r)) ?_).congr (fun c => ?_)
  · rintro c h1 ⟨d, _, rfl⟩
    rcases h1 with h1 | ⟨q, q1, q2, d', _, q5⟩
    · exact Bs_head hR hr hu h1
    · injection q5 with q5 _
      have hq := (hum q (List.mem_of_mem_take q1)).1
      have := nI_inj (by omega) (by omega) q5
      subst this
      exact take_nd hus hur q1
  · constructor
    · rintro ((h1 | ⟨q, q1, q2⟩) | ⟨d, d1, d2⟩)
      · exact Or.inl h1
      · exact Or.inr ⟨q, by rw [take_add1 hur]; simp [q1], q2⟩
      · exact Or.inr ⟨r, by rw [take_add1 hur]; simp, hs, d, d1, d2⟩
    · rintro (h1 | ⟨q, q1, q2, d, q5, q6⟩)
      · exact Or.inl (Or.inl h1)
      · rw [take_add1 hur] at q1
        rcases List.mem_append.mp q1 with q1 | q1
        · exact Or.inl (Or.inr ⟨q, q1, q2, d, q5, q6⟩)
        · simp only [List.mem_cons, List.not_mem_nil, or_false] at q1
          subst q1
          exact Or.inr ⟨d, q5, q6⟩
theorem Rl_skip {G : Gm} {A : Nat → List Int32 → Prop} {us : List Nat} {u r s : Nat} (hur : us[u]? = some r) {y : List Int32} {n : Nat} (h : Cnt (Rl G A us u s y) n) (hs : grs G r ≠ s) : Cnt (Rl G A us (u + 1) s y) n := by
  refine h.congr (fun c => ?_)
  constructor
  · rintro (h1 | ⟨q, q1, q2⟩)
    · exact Or.inl h1
    · exact Or.inr ⟨q, by rw [take_add1 hur]; simp [q1], q2⟩
  · rintro (h1 | ⟨q, q1, q2, q3⟩)
    · exact Or.inl h1
    · rw [take_add1 hur] at q1
      rcases List.mem_append.mp q1 with q1 | q1
      · exact Or.inr ⟨q, q1, q2, q3⟩
      · simp only [List.mem_cons, List.not_mem_nil, or_false] at q1
        subst q1
        exact absurd q2 hs
/-- the chart's unit rules -/
def Us (G : Gm) (χ : Nat → Nat → Int32) (us : List Nat) : Prop := us.Nodup ∧ us.length ≤ 30 ∧ (∀ r, r ∈ us ↔ r < gR G ∧ isU G r) ∧ χ 0 7 = nI us.length ∧ ∀ k, k < us.length → χ 3 k = nI (us.getD k 0)
theorem p_addUnitWays_57 {N : Nat} {γ χ : Nat → Nat → Int32} {G : Gm} (hG : GrOK γ G) {i j : Nat} (hij : i < j) (hj : j ≤ 12) {us : List Nat} (hU : Us G χ us) {y : List Int32} {A : Nat → List Int32 → Prop} (hW : WS χ i j A) {s : Nat} (hs : s < 6) (v3 : Int32) (kx : Int32 → Option (Nat → Nat → Int32)) :
    ∀ (d u n v : Nat), u + d = us.length → d < n → Cnt (Rl G A us u s y) v → ∃ v', Cnt (Rl G A us us.length s y) v' ∧ l_Ch_addUnitWays_57 N χ γ (nI i) (nI j) v3 (nI s) kx n (nI v) (nI u) = kx (nI v') := by
  obtain ⟨hus, hul, hum, hc7, hc3⟩ := hU
  have hR := hG.1.2.2.1
  intro d
  induction d with
  | zero =>
    intro u n v hu hn hc
    obtain ⟨m, rfl⟩ : ∃ m, n = m + 1 := ⟨n - 1, by omega⟩
    have : u = us.length := by omega
    subst this
    refine ⟨v, hc, ?_⟩
    unfold l_Ch_addUnitWays_57 f_Ch_addUnitWays_57
    rw [hc7, if_pos (nI_le (Nat.le_refl _) (by omega))]
  | succ d ih =>
    intro u n v hu hn hc
    obtain ⟨m, rfl⟩ : ∃ m, n = m + 1 := ⟨n - 1, by omega⟩
    have hur : us[u]? = some (us.getD u 0) := by
      rw [List.getD_eq_getElem?_getD, List.getElem?_eq_getElem (by omega)]
      rfl
    generalize hr0 : us.getD u 0 = r at hur
    have hrm : r ∈ us := List.mem_of_getElem? hur
    obtain ⟨hr, hu'⟩ := (hum r).mp hrm
    have hrs : grs G r < 6 := by
      have h1 := (hG.1.2.2.2.2 r hr).1
      have h2 := hG.1.1
      omega
    have ht6 := uS_lt6 hG.1 hr hu'
    have step : l_Ch_addUnitWays_57 N χ γ (nI i) (nI j) v3 (nI s) kx (m + 1) (nI v) (nI u) = f_Ch_addUnitWays_57 N (l_Ch_addUnitWays_57 N χ γ (nI i) (nI j) v3 (nI s) kx m) kx χ γ (nI i) (nI j) v3 (nI s) (nI v) (nI u) := rfl
    unfold f_Ch_addUnitWays_57 at step
    rw [hc7, if_neg (nI_ge (by omega) (by omega)), ck_n (by omega) (by omega), nm_d, nI_clamp (by omega), hc3 u (by omega), hr0, g_sort_r hG hr, b1_some] at step
    by_cases e : grs G r = s
    · obtain ⟨w, w1, w2⟩ := hW _ ht6
      obtain ⟨v', g1, g2⟩ := ih (u + 1) m (wplus v w) (by omega) (by omega) (Rl_next hR hus (fun r hr => (hum r).mp hr) hur hc w2 e)
      refine ⟨v', g1, ?_⟩
      have h1 : 0 < (dv (gry G r)).length := by
        rw [((isU_iff r).mp hu').2]
        omega
      have e0 := g_slotSort hG hr h1
      rw [uS_slot hu', nI_0] at e0
      rw [step, if_pos (by rw [e]), e0, b1_some, p_waysOf ht6 hij hj, b1_some, w1, p_plus hc.le w2.le, b1_some, nm_d, nI_1]
      exact g2
    · obtain ⟨v', g1, g2⟩ := ih (u + 1) m v (by omega) (by omega) (Rl_skip hur hc e)
      refine ⟨v', g1, ?_⟩
      rw [step, if_neg (fun q => e (nI_inj (by omega) (by omega) q)), nm_d, nI_1]
      exact g2
def RI (G : Gm) (y : List Int32) (k s : Nat) (A : Nat → List Int32 → Prop) : Prop := ∀ t, t < 6 → (∀ c, Ua G (if t < s then k + 1 else k) t y c → A t c) ∧ ∀ c, A t c → Sy G t y c
theorem Ua_mono {G : Gm} {k k' s : Nat} {y c : List Int32} (h : k ≤ k') (q : Ua G k s y c) : Ua G k' s y c := by
  obtain ⟨u, b, h1, h2, h3, h4⟩ := q
  exact ⟨u, b, h1, by omega, h3, h4⟩
theorem p_addUnitWays_38 {N : Nat} (hN : 31 ≤ N) {γ : Nat → Nat → Int32} {G : Gm} (hG : GrOK γ G) {i j : Nat} (hij : i < j) (hj : j ≤ 12) {us : List Nat} {y : List Int32} {k : Nat} (v3 : Int32) (kx : (Nat → Nat → Int32) → Option (Nat → Nat → Int32)) :
    ∀ (d s n : Nat) (χ : Nat → Nat → Int32) (A : Nat → List Int32 → Prop), s + d = 6 → d < n → Us G χ us → (∀ t, t < 6 → ∃ v, χ 7 t = nI v ∧ Cnt (Bs G t y) v) → WS χ i j A → RI G y k s A → ∃ χ' A', Fw i j χ χ' ∧ (∀ t, χ' 7 t = χ 7 t) ∧ WS χ' i j A' ∧ RI G y (k + 1) 0 A' ∧ l_Ch_addUnitWays_38 N γ (nI i) (nI j) v3 kx n χ (nI s) = kx χ' := by
  intro d
  induction d with
  | zero =>
    intro s n χ A hs hn hU hO hW hA
    obtain ⟨m, rfl⟩ : ∃ m, n = m + 1 := ⟨n - 1, by omega⟩
    have : s = 6 := by omega
    subst this
    refine ⟨χ, A, Fw.refl _ _ _, fun _ => rfl, hW, ?_, ?_⟩
    · intro t ht
      obtain ⟨h1, h2⟩ := hA t ht
      rw [if_pos ht] at h1
      exact ⟨fun c hc => h1 c (by rw [if_neg (by omega)] at hc; exact hc), h2⟩
    · unfold l_Ch_addUnitWays_38 f_Ch_addUnitWays_38
      rw [l_6, if_pos (nI_le (Nat.le_refl _) (by omega))]
  | succ d ih =>
    intro s n χ A hs hn hU hO hW hA
    obtain ⟨m, rfl⟩ : ∃ m, n = m + 1 := ⟨n - 1, by omega⟩
    have hs6 : s < 6 := by omega
    obtain ⟨v0, o1, o2⟩ := hO s hs6
    obtain ⟨v', g1, g2⟩ := p_addUnitWays_57 (N := N) hG hij hj hU (y := y) hW hs6 v3 (fun v5 => f_Ch_addUnitWays_118 N (l_Ch_addUnitWays_38 N γ (nI i) (nI j) v3 kx m) kx χ γ (nI i) (nI j) v3 (nI s) v5) us.length 0 N v0 (by omega) (by have := hU.2.1; omega) (o2.congr (fun e => ⟨fun q => Or.inl q, fun q => q.elim id (fun ⟨r, h, _⟩ => by simp at h)⟩))
    -- the new family
    have hW2 : WS (st2 χ 1 (cO s i j) (nI v')) i j (fun t => if t = s then Rl G A us us.length s y else A t) := by
      intro t ht
      by_cases e : t = s
      · subst e
        refine ⟨v', st2_s _ _ _ _, ?_⟩
        simp only [if_true]
        exact g1
      · obtain ⟨v, w1, w2⟩ := hW t ht
        refine ⟨v, ?_, ?_⟩
        · rw [st2_k _ _ _ (fun q => e (cO_inj ht hs6 hij hij q).1)]
          exact w1
        · simp only [if_neg e]
          exact w2
    have hA2 : RI G y k (s + 1) (fun t => if t = s then Rl G A us us.length s y else A t) := by
      intro t ht
      by_cases e : t = s
      · subst e
        simp only [if_true]
        refine ⟨fun c hc => ?_, fun c hc => ?_⟩
        · rw [if_pos (by omega)] at hc
          rcases Rd_lo hG.1 (A := A) (fun t' ht' c' hc' => (hA t' ht').1 c' (Ua_mono (by split <;> omega) hc')) hc with q | ⟨r, _, q2, q3, q4, d', q5, q6⟩
          · exact Or.inl q
          · exact Or.inr ⟨r, by rw [List.take_length]; exact (hU.2.2.1 r).mpr ⟨q2, q3⟩, q4, d', q5, q6⟩
        · rcases hc with q | ⟨r, q1, q2, d', q3, q4⟩
          · exact Bs_Sy q
          · rw [List.take_length] at q1
            obtain ⟨r1, r2⟩ := (hU.2.2.1 r).mp q1
            exact Sy_bu.mpr (Or.inr ⟨r, r1, q2, r2, d', (hA _ (uS_lt6 hG.1 r1 r2)).2 d' q3, q4⟩)
      · simp only [if_neg e]
        obtain ⟨h1, h2⟩ := hA t ht
        refine ⟨fun c hc => h1 c ?_, h2⟩
        by_cases q : t < s
        · rw [if_pos q]
          rw [if_pos (by omega)] at hc
          exact hc
        · rw [if_neg q]
          rw [if_neg (by omega)] at hc
          exact hc
    obtain ⟨χ', A', x1, x2, x3, x4, x5⟩ := ih (s + 1) m (st2 χ 1 (cO s i j) (nI v')) _ (by omega) (by omega) ⟨hU.1, hU.2.1, hU.2.2.1, by rw [st2_aj _ _ _ _ (by decide)]; exact hU.2.2.2.1, fun q hq => by rw [st2_aj _ _ _ _ (by decide)]; exact hU.2.2.2.2 q hq⟩ (fun t ht => by rw [st2_aj _ _ _ _ (by decide)]; exact hO t ht) hW2 hA2
    refine ⟨χ', A', Fw.trans ⟨fun b h1 _ => st2_a _ _ _ h1, fun z hz => st2_k _ _ _ (hz s hs6)⟩ x1, fun t => by rw [x2 t, st2_aj _ _ _ _ (by decide)], x3, x4, ?_⟩
    have step : l_Ch_addUnitWays_38 N γ (nI i) (nI j) v3 kx (m + 1) χ (nI s) = f_Ch_addUnitWays_38 N (l_Ch_addUnitWays_38 N γ (nI i) (nI j) v3 kx m) kx χ γ (nI i) (nI j) v3 (nI s) := rfl
    unfold f_Ch_addUnitWays_38 at step
    rw [l_6, if_neg (nI_ge hs6 (by omega)), ck_n hs6 (by omega), nm_d, nI_clamp (by omega), o1, ← nI_0, g2] at step
    unfold f_Ch_addUnitWays_118 at step
    rw [p_cellOf hs6 hij hj, b1_some, p_setWays (cO_lt hs6 hij hj), b1_some, nm_d, nI_1] at step
    rw [step]
    exact x5
theorem p_addUnitWays_29 {N : Nat} (hN : 31 ≤ N) {γ : Nat → Nat → Int32} {G : Gm} (hG : GrOK γ G) {i j : Nat} (hij : i < j) (hj : j ≤ 12) {us : List Nat} {y : List Int32} (kx : (Nat → Nat → Int32) → Option (Nat → Nat → Int32)) :
    ∀ (d k n : Nat) (χ : Nat → Nat → Int32) (A : Nat → List Int32 → Prop), k + d = 6 → d < n → Us G χ us → (∀ t, t < 6 → ∃ v, χ 7 t = nI v ∧ Cnt (Bs G t y) v) → WS χ i j A → RI G y k 0 A → ∃ χ' A', Fw i j χ χ' ∧ WS χ' i j A' ∧ RI G y 6 0 A' ∧ l_Ch_addUnitWays_29 N γ (nI i) (nI j) kx n χ (nI k) = kx χ' := by
  intro d
  induction d with
  | zero =>
    intro k n χ A hk hn hU hO hW hA
    obtain ⟨m, rfl⟩ : ∃ m, n = m + 1 := ⟨n - 1, by omega⟩
    have : k = 6 := by omega
    subst this
    refine ⟨χ, A, Fw.refl _ _ _, hW, hA, ?_⟩
    unfold l_Ch_addUnitWays_29 f_Ch_addUnitWays_29
    rw [l_6, if_pos (nI_le (Nat.le_refl _) (by omega))]
  | succ d ih =>
    intro k n χ A hk hn hU hO hW hA
    obtain ⟨m, rfl⟩ : ∃ m, n = m + 1 := ⟨n - 1, by omega⟩
    obtain ⟨χ1, A1, x1, x2, x3, x4, x5⟩ := p_addUnitWays_38 hN hG hij hj (us := us) (y := y) (k := k) (nI k) (fun s_self => f_Ch_addUnitWays_137 N (l_Ch_addUnitWays_29 N γ (nI i) (nI j) kx m) kx s_self γ (nI i) (nI j) (nI k)) 6 0 N χ A (by omega) (by omega) hU hO hW hA
    have hU1 : Us G χ1 us := ⟨hU.1, hU.2.1, hU.2.2.1, by rw [x1.1 0 (by decide) (by decide)]; exact hU.2.2.2.1, fun q hq => by rw [x1.1 3 (by decide) (by decide)]; exact hU.2.2.2.2 q hq⟩
    obtain ⟨χ', A', y1, y2, y3, y4⟩ := ih (k + 1) m χ1 A1 (by omega) (by omega) hU1 (fun t ht => by rw [x2 t]; exact hO t ht) x3 x4
    refine ⟨χ', A', x1.trans y1, y2, y3, ?_⟩
    unfold l_Ch_addUnitWays_29 f_Ch_addUnitWays_29
    rw [l_6, if_neg (nI_ge (by omega) (by omega)), ← nI_0, x5]
    unfold f_Ch_addUnitWays_137
    rw [nm_d, nI_1]
    exact y4
theorem p_addUnitWays {N : Nat} (hN : 31 ≤ N) {γ χ : Nat → Nat → Int32} {G : Gm} (hG : GrOK γ G) {i j : Nat} (hij : i < j) (hj : j ≤ 12) {us : List Nat} (hU : Us G χ us) {y : List Int32} (hW : WS χ i j (fun s => Bs G s y)) : ∃ χ' A', Fw i j χ χ' ∧ WS χ' i j A' ∧ RI G y 6 0 A' ∧ m_Ch_addUnitWays N χ γ (nI i) (nI j) = some χ' := by
  obtain ⟨χ1, g1, g2, g3⟩ := p_addUnitWays_2 (N := N) (γ := γ) hij hj (fun s_self => f_Ch_addUnitWays_27 N s_self γ (nI i) (nI j)) 6 0 N χ (by omega) (by omega) (fun t ht => by omega)
  have hU1 : Us G χ1 us := ⟨hU.1, hU.2.1, hU.2.2.1, by rw [g1 0 (by decide)]; exact hU.2.2.2.1, fun q hq => by rw [g1 3 (by decide)]; exact hU.2.2.2.2 q hq⟩
  obtain ⟨χ', A', y1, y2, y3, y4⟩ := p_addUnitWays_29 hN hG hij hj (y := y) (fun s_self => f_Ch_addUnitWays_143 N s_self γ) 6 0 N χ1 (fun s => Bs G s y) (by omega) (by omega) hU1 (fun t ht => by
    obtain ⟨v, w1, w2⟩ := hW t ht
    exact ⟨v, by rw [g2 t ht]; exact w1, w2⟩) (fun s hs => by rw [g1 1 (by decide)]; exact hW s hs) (fun t ht => ⟨fun c hc => Ua_0 (by rw [if_neg (by omega)] at hc; exact hc), fun c hc => Bs_Sy hc⟩)
  refine ⟨χ', A', Fw.trans ⟨fun b _ h7 => g1 b h7, fun z _ => by rw [g1 1 (by decide)]⟩ y1, y2, y3, ?_⟩
  unfold m_Ch_addUnitWays f_Ch_addUnitWays_0
  rw [← nI_0, g3]
  unfold f_Ch_addUnitWays_27
  rw [← nI_0]
  exact y4
