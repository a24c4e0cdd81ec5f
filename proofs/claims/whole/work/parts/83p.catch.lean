/-! the chart, kept up with the row -/
def Col (D t : Nat) : Prop := ∃ s, s < 6 ∧ ∃ i j, i < j ∧ j ≤ D ∧ (t = 2 * cO s i j ∨ t = 2 * cO s i j + 1)
def VC (V : Nat → Prop) (D t : Nat) : Prop := V t ∧ Col D t
/-- columns up to D are right -/
def Cls (G : Gm) (χ τ : Nat → Nat → Int32) (C : Nat → List Int32) (V : Nat → Prop) (D : Nat) : Prop :=
  (∀ s, s < 6 → ∀ i j, i < j → j ≤ D → CA χ τ C V (cO s i j) (Sy G s (sg (χ 2) i j))) ∧ (∀ D', D' ≤ D → TT τ C (ar G) (VC V D') (VC V D')) ∧ (∀ t, V t → t < 936 ∧ (C t).length ≤ 150)
theorem TT.keep {τ τ' : Nat → Nat → Int32} {C C' : Nat → List Int32} {ar : Int32 → Nat} {V V' : Nat → Prop} (h : TT τ C ar V V) (e : ∀ t, V t ↔ V' t) (k : ∀ t, V t → C' t = C t ∧ Sam τ τ' t) : TT τ' C' ar V' V' := by
  refine ⟨fun t ht => ⟨(h.1 t ((e t).mpr ht)).1, ?_⟩, fun t ht => ht⟩
  have hv := (e t).mpr ht
  obtain ⟨ps, a1, a2, a3, a4, a5, a6, a7⟩ := (h.1 t hv).2
  obtain ⟨k1, k2, k3, k4, k5⟩ := k t hv
  have em : ps.map C' = ps.map C := by
    apply List.map_congr_left
    intro p hp
    obtain ⟨q, hq, rfl⟩ := mem_getD (d := 0) hp
    exact (k _ (a4 q hq).2).1
  refine ⟨ps, ?_, a2, ?_, ?_, ?_, ?_, ?_⟩
  · rw [k3]; exact a1
  · rw [k4]; exact a3
  · intro q hq
    rw [k5 q (by omega)]
    exact ⟨(a4 q hq).1, (e _).mp (a4 q hq).2⟩
  · rw [k1, k3, em]; exact a5
  · rw [k1, k2]; exact a6
  · rw [k1]; exact a7
theorem Col.mono {D D' t : Nat} (h : Col D t) (k : D ≤ D') : Col D' t := by
  obtain ⟨s, hs, i, j, h1, h2, h3⟩ := h
  exact ⟨s, hs, i, j, h1, by omega, h3⟩
theorem Col.ne {D t : Nat} (h : Col D t) {i j : Nat} (hij : i < j) (hj : D < j) {s : Nat} (hs : s < 6) : t ≠ 2 * cO s i j ∧ t ≠ 2 * cO s i j + 1 := by
  obtain ⟨s', hs', i', j', h1, h2, h3⟩ := h
  have : cO s' i' j' ≠ cO s i j := by
    intro e
    have := (cO_inj hs' hs h1 hij e).2.2
    omega
  rcases h3 with h3 | h3 <;> constructor <;> omega
theorem Col.lt {D t : Nat} (hD : D ≤ 12) (h : Col D t) : t < 936 := by
  obtain ⟨s, hs, i, j, h1, h2, h3⟩ := h
  have := cO_lt hs h1 (show j ≤ 12 by omega)
  omega
theorem CA.sg {χ χ' τ : Nat → Nat → Int32} {C : Nat → List Int32} {V V' : Nat → Prop} {c : Nat} {A : List Int32 → Prop} (h : CA χ τ C V c A) (e1 : χ' 1 c = χ 1 c) (e : ∀ t, t = 2 * c ∨ t = 2 * c + 1 → (V' t ↔ V t)) : CA χ' τ C V' c A := by
  obtain ⟨v, p, h1, h2, h3, h4⟩ := h
  exact ⟨v, p, by rw [e1]; exact h1, h2, h3.frame (fun t ht => ⟨e t ht, rfl, rfl⟩), h4⟩
/-- in column D + 1, from place m on -/
def Reg (D m t : Nat) : Prop := Col D t ∨ ∃ s, s < 6 ∧ ∃ i, m ≤ i ∧ i ≤ D ∧ (t = 2 * cO s i (D + 1) ∨ t = 2 * cO s i (D + 1) + 1)
theorem p_catchUp_84 {N np : Nat} (hN : 151 ≤ N) {γ ρ : Nat → Nat → Int32} {G : Gm} (hG : GrOK γ G) {D : Nat} (hD : D < 12) {us : List Nat} (kx : (Nat → Nat → Int32) → (Nat → Nat → Int32) → Option ((Nat → Nat → Int32) × (Nat → Nat → Int32))) :
    ∀ (m n : Nat) (χ τ : Nat → Nat → Int32) (C : Nat → List Int32) (V : Nat → Prop), m ≤ D + 1 → m < n → UsQ G χ (gR G) us → RcQ G χ (gR G) → (∀ k, k < D + 1 → okSym (gV G) (χ 2 k)) → Cls G χ τ C V D → FS τ C (ar G) V V → (∀ t, V t → Reg D m t) → (∀ s, s < 6 → ∀ i, m ≤ i → i ≤ D → CA χ τ C V (cO s i (D + 1)) (Sy G s (sg (χ 2) i (D + 1)))) →
      ∃ χ' τ' C' V', Cls G χ' τ' C' V' (D + 1) ∧ PC τ' ∧ (∀ b, b ≠ 1 → b ≠ 5 → b ≠ 6 → b ≠ 7 → χ' b = χ b) ∧ l_Ch_catchUp_84 N np γ ρ (nI D) kx n χ τ (dn m) = kx χ' τ' := by
  intro m
  induction m with
  | zero =>
    intro n χ τ C V hm hn hU hC hok hL hS hV hA
    obtain ⟨n, rfl⟩ : ∃ m, n = m + 1 := ⟨n - 1, by omega⟩
    refine ⟨χ, τ, C, V, ⟨?_, ?_, hS.2.1⟩, hS.2.2, fun _ _ _ _ _ => rfl, ?_⟩
    · intro s hs i j hij hj
      by_cases e : j ≤ D
      · exact hL.1 s hs i j hij e
      · have : j = D + 1 := by omega
        subst this
        exact hA s hs i (by omega) (by omega)
    · intro D' hD'
      by_cases e : D' ≤ D
      · exact hL.2.1 D' e
      · have : D' = D + 1 := by omega
        subst this
        refine hS.1.keep (fun t => ⟨fun ht => ⟨ht, ?_⟩, fun ht => ht.1⟩) (fun t ht => ⟨rfl, Sam.refl _ _⟩)
        rcases hV t ht with q | ⟨s, hs, i, _, hi, q⟩
        · exact q.mono (by omega)
        · exact ⟨s, hs, i, D + 1, by omega, by omega, q⟩
    · unfold l_Ch_catchUp_84 f_Ch_catchUp_84
      rw [if_pos (of_eq_true dn_neg)]
  | succ m ih =>
    intro n χ τ C V hm hn hU hC hok hL hS hV hA
    obtain ⟨n, rfl⟩ : ∃ m, n = m + 1 := ⟨n - 1, by omega⟩
    have hmD : m < D + 1 := by omega
    have hVs : ∀ t, V t → ∀ s, s < 6 → t ≠ 2 * cO s m (D + 1) ∧ t ≠ 2 * cO s m (D + 1) + 1 := by
      intro t ht s hs
      rcases hV t ht with q | ⟨s', hs', i, hi, hi2, q⟩
      · exact q.ne hmD (by omega) hs
      · have : cO s' i (D + 1) ≠ cO s m (D + 1) := by
          intro e
          have := (cO_inj hs' hs (by omega) hmD e).2.1
          omega
        rcases q with q | q <;> constructor <;> omega
    have hB : SubOK G χ τ C V V (χ 2) m (D + 1) := by
      intro s hs i' j' h1 h2 h3 h4
      refine ⟨?_, fun _ _ h => h⟩
      by_cases e : j' ≤ D
      · exact hL.1 s hs i' j' h2 e
      · have : j' = D + 1 := by omega
        subst this
        exact hA s hs i' (by omega) (by omega)
    obtain ⟨χ1, τ1, C1, V1, o1, o2, o3, o4, o5, o6⟩ := p_fillStretch hN hG hmD (by omega) hS hVs hB (fun k _ hk => hok k hk) hU hC
    have e2 : χ1 2 = χ 2 := o5 2 (by decide) (by decide) (by decide) (by decide)
    have colne : ∀ t, Col D t → t < 936 ∧ ∀ s, s < 6 → t ≠ 2 * cO s m (D + 1) ∧ t ≠ 2 * cO s m (D + 1) + 1 := fun t ht => ⟨ht.lt (by omega), fun s hs => ht.ne hmD (by omega) hs⟩
    have hL1 : Cls G χ1 τ1 C1 V1 D := by
      refine ⟨?_, ?_, o2.2.1⟩
      · intro s hs i j hij hj
        rw [e2]
        refine (hL.1 s hs i j hij hj).frameS (cO_lt hs hij (by omega)) (fun s' hs' e => ?_) o4
        have := (cO_inj hs hs' hij hmD e).2.2
        omega
      · intro D' hD'
        refine (hL.2.1 D' hD').keep (fun t => ?_) (fun t ht => ?_)
        · constructor
          · rintro ⟨h1, h2⟩
            obtain ⟨q1, q2⟩ := colne t (h2.mono hD')
            exact ⟨((o4.2 t q1 q2).1).mpr h1, h2⟩
          · rintro ⟨h1, h2⟩
            obtain ⟨q1, q2⟩ := colne t (h2.mono hD')
            exact ⟨((o4.2 t q1 q2).1).mp h1, h2⟩
        · obtain ⟨q1, q2⟩ := colne t (ht.2.mono hD')
          exact ⟨(o4.2 t q1 q2).2.1, (o4.2 t q1 q2).2.2⟩
    have hU1 : UsQ G χ1 (gR G) us := ⟨hU.1, hU.2.1, hU.2.2.1, by rw [o5 0 (by decide) (by decide) (by decide) (by decide)]; exact hU.2.2.2.1, fun k hk => by rw [o5 3 (by decide) (by decide) (by decide) (by decide)]; exact hU.2.2.2.2 k hk⟩
    have hC1 : RcQ G χ1 (gR G) := fun s hs b hb => by rw [o5 4 (by decide) (by decide) (by decide) (by decide)]; exact hC s hs b hb
    obtain ⟨χ', τ', C', V', g1, g2, g3, g4⟩ := ih n χ1 τ1 C1 V1 (by omega) (by omega) hU1 hC1 (fun k hk => by rw [e2]; exact hok k hk) hL1 o2
      (fun t ht => by
        by_cases q : ∀ s, s < 6 → t ≠ 2 * cO s m (D + 1) ∧ t ≠ 2 * cO s m (D + 1) + 1
        · have := ((o4.2 t (o2.2.1 t ht).1 q).1).mp ht
          rcases hV t this with h | ⟨s, hs, i, h1, h2, h3⟩
          · exact Or.inl h
          · exact Or.inr ⟨s, hs, i, by omega, h2, h3⟩
        · right
          apply Classical.byContradiction
          intro hn'
          apply q
          intro s hs
          constructor
          · intro e
            exact hn' ⟨s, hs, m, Nat.le_refl _, by omega, Or.inl e⟩
          · intro e
            exact hn' ⟨s, hs, m, Nat.le_refl _, by omega, Or.inr e⟩)
      (fun s hs i h1 h2 => by
        rw [e2]
        by_cases e : i = m
        · subst e
          exact o3 s hs
        · refine (hA s hs i (by omega) h2).frameS (cO_lt hs (by omega) (by omega)) (fun s' hs' q => ?_) o4
          exact e (cO_inj hs hs' (by omega) hmD q).2.1)
    refine ⟨χ', τ', C', V', g1, g2, fun b b1 b5 b6 b7 => by rw [g3 b b1 b5 b6 b7, o5 b b1 b5 b6 b7], ?_⟩
    unfold l_Ch_catchUp_84 f_Ch_catchUp_84
    rw [dn_s, if_neg (nI_pos (by omega)), nI_1, o1, b2_some, nm_d, dn_m]
    exact g4
/-- all that is known of the chart when its rules are seen -/
def ChD (G : Gm) (χ τ : Nat → Nat → Int32) (C : Nat → List Int32) (V : Nat → Prop) (us : List Nat) (D : Nat) : Prop :=
  χ 0 4 = nI D ∧ D ≤ 12 ∧ χ 0 5 = nI (gR G) ∧ UsQ G χ (gR G) us ∧ RcQ G χ (gR G) ∧ (∀ k, k < D → okSym (gV G) (χ 2 k)) ∧ Cls G χ τ C V D ∧ PC τ
theorem p_catchUp_25 {N : Nat} (hN : 151 ≤ N) {γ ρ : Nat → Nat → Int32} {G : Gm} (hG : GrOK γ G) {w : List Int32} (hw : SyL 12 ρ w) (hwo : ∀ x, x ∈ w → okSym (gV G) x) :
    ∀ (d at_ n : Nat) (χ τ : Nat → Nat → Int32) (C : Nat → List Int32) (V : Nat → Prop) (us : List Nat) (D : Nat), at_ + d = w.length → d < n → ChD G χ τ C V us D → at_ ≤ D → (∀ k, k < at_ → χ 2 k = w.getD k 0) →
      ∃ χ' τ' C' V' D', ChD G χ' τ' C' V' us D' ∧ w.length ≤ D' ∧ (∀ k, k < w.length → χ' 2 k = w.getD k 0) ∧ l_Ch_catchUp_25 N 12 γ ρ (fun s_self s_table => f_Ch_catchUp_108 N 12 s_self γ s_table ρ) n χ τ (nI at_) = some (χ', τ') := by
  have hl := hw.2.1
  intro d
  induction d with
  | zero =>
    intro at_ n χ τ C V us D ha hn hI hD hk
    obtain ⟨n, rfl⟩ : ∃ m, n = m + 1 := ⟨n - 1, by omega⟩
    have : at_ = w.length := by omega
    subst this
    refine ⟨χ, τ, C, V, D, hI, hD, hk, ?_⟩
    unfold l_Ch_catchUp_25 f_Ch_catchUp_25
    rw [hw.1, if_pos (nI_le (Nat.le_refl _) (by omega))]
    rfl
  | succ d ih =>
    intro at_ n χ τ C V us D ha hn hI hD hk
    obtain ⟨n, rfl⟩ : ∃ m, n = m + 1 := ⟨n - 1, by omega⟩
    have haw : at_ < w.length := by omega
    have step : l_Ch_catchUp_25 N 12 γ ρ (fun s_self s_table => f_Ch_catchUp_108 N 12 s_self γ s_table ρ) (n + 1) χ τ (nI at_) = f_Ch_catchUp_25 N 12 (l_Ch_catchUp_25 N 12 γ ρ (fun s_self s_table => f_Ch_catchUp_108 N 12 s_self γ s_table ρ) n) (fun s_self s_table => f_Ch_catchUp_108 N 12 s_self γ s_table ρ) χ γ τ ρ (nI at_) := rfl
    obtain ⟨i1, i2, i3, i4, i5, i6, i7, i8⟩ := hI
    unfold f_Ch_catchUp_25 at step
    rw [hw.1, if_neg (nI_ge haw (by omega)), l_12, if_neg (nI_ge (by omega) (by omega)), i1] at step
    -- the column is made anew
    have anew : l_Ch_catchUp_25 N 12 γ ρ (fun s_self s_table => f_Ch_catchUp_108 N 12 s_self γ s_table ρ) (n + 1) χ τ (nI at_) = f_Ch_catchUp_64 N 12 (l_Ch_catchUp_25 N 12 γ ρ (fun s_self s_table => f_Ch_catchUp_108 N 12 s_self γ s_table ρ) n) (fun s_self s_table => f_Ch_catchUp_108 N 12 s_self γ s_table ρ) χ γ τ ρ (nI at_) → ∃ χ' τ' C' V' D', ChD G χ' τ' C' V' us D' ∧ w.length ≤ D' ∧ (∀ k, k < w.length → χ' 2 k = w.getD k 0) ∧ l_Ch_catchUp_25 N 12 γ ρ (fun s_self s_table => f_Ch_catchUp_108 N 12 s_self γ s_table ρ) (n + 1) χ τ (nI at_) = some (χ', τ') := by
      intro he
      unfold f_Ch_catchUp_64 at he
      rw [hw.at (by omega) haw, b1_some, ck_n (by omega) (by omega), nm_d, nm_d, nI_clamp (by omega), nI_1] at he
      have sgsame : ∀ i j, j ≤ at_ → sg (st2 (st2 χ 2 at_ (w.getD at_ 0)) 0 4 (nI (at_ + 1)) 2) i j = sg (χ 2) i j := by
        intro i j hj
        apply sg_congr
        intro k _ hk
        rw [st2_aj _ _ _ _ (by decide), st2_k _ _ _ (by omega)]
      have hcl : Cls G (st2 (st2 χ 2 at_ (w.getD at_ 0)) 0 4 (nI (at_ + 1))) τ C (VC V at_) at_ := by
        refine ⟨fun s hs i j hij hj => ?_, fun D' hD' => ?_, fun t ht => i7.2.2 t ht.1⟩
        · rw [sgsame i j hj]
          refine (i7.1 s hs i j hij (by omega)).sg (by rw [st2_aj _ _ _ _ (by decide), st2_aj _ _ _ _ (by decide)]) (fun t ht => ⟨fun q => q.1, fun q => ⟨q, s, hs, i, j, hij, hj, ht⟩⟩)
        · refine (i7.2.1 D' (by omega)).keep (fun t => ?_) (fun t ht => ⟨rfl, Sam.refl _ _⟩)
          constructor
          · rintro ⟨h1, h2⟩
            exact ⟨⟨h1, h2.mono hD'⟩, h2⟩
          · rintro ⟨h1, h2⟩
            exact ⟨h1.1, h2⟩
      obtain ⟨χ1, τ1, C1, V1, x1, x2, x3, x4⟩ := p_catchUp_84 (np := 12) (ρ := ρ) hN hG (D := at_) (by omega) (us := us) (fun s_self s_table => f_Ch_catchUp_102 N 12 (l_Ch_catchUp_25 N 12 γ ρ (fun s_self s_table => f_Ch_catchUp_108 N 12 s_self γ s_table ρ) n) (fun s_self s_table => f_Ch_catchUp_108 N 12 s_self γ s_table ρ) s_self γ s_table ρ (nI at_)) (at_ + 1) N (st2 (st2 χ 2 at_ (w.getD at_ 0)) 0 4 (nI (at_ + 1))) τ C (VC V at_) (Nat.le_refl _) (by omega)
        ⟨i4.1, i4.2.1, i4.2.2.1, by rw [st2_k _ _ _ (by decide), st2_aj _ _ _ _ (by decide)]; exact i4.2.2.2.1, fun k hk => by rw [st2_aj _ _ _ _ (by decide), st2_aj _ _ _ _ (by decide)]; exact i4.2.2.2.2 k hk⟩
        (fun s hs b hb => by rw [st2_aj _ _ _ _ (by decide), st2_aj _ _ _ _ (by decide)]; exact i5 s hs b hb)
        (fun k hk => by
          rw [st2_aj _ _ _ _ (by decide)]
          by_cases e : k = at_
          · subst e
            rw [st2_s]
            exact hwo _ (getD_mem haw)
          · rw [st2_k _ _ _ e]
            exact i6 k (by omega))
        hcl ⟨i7.2.1 at_ hD, fun t ht => i7.2.2 t ht.1, i8⟩ (fun t ht => Or.inl ht.2) (fun s hs i h1 h2 => by omega)
      rw [dn_s] at x4
      obtain ⟨χ', τ', C', V', D', y1, y2, y3, y4⟩ := ih (at_ + 1) n χ1 τ1 C1 V1 us (at_ + 1) (by omega) (by omega)
        ⟨by rw [x3 0 (by decide) (by decide) (by decide) (by decide), st2_s], by omega, by rw [x3 0 (by decide) (by decide) (by decide) (by decide), st2_k _ _ _ (by decide), st2_aj _ _ _ _ (by decide)]; exact i3,
          ⟨i4.1, i4.2.1, i4.2.2.1, by rw [x3 0 (by decide) (by decide) (by decide) (by decide), st2_k _ _ _ (by decide), st2_aj _ _ _ _ (by decide)]; exact i4.2.2.2.1, fun k hk => by rw [x3 3 (by decide) (by decide) (by decide) (by decide), st2_aj _ _ _ _ (by decide), st2_aj _ _ _ _ (by decide)]; exact i4.2.2.2.2 k hk⟩,
          fun s hs b hb => by rw [x3 4 (by decide) (by decide) (by decide) (by decide), st2_aj _ _ _ _ (by decide), st2_aj _ _ _ _ (by decide)]; exact i5 s hs b hb,
          fun k hk => by
            rw [x3 2 (by decide) (by decide) (by decide) (by decide), st2_aj _ _ _ _ (by decide)]
            by_cases e : k = at_
            · subst e
              rw [st2_s]
              exact hwo _ (getD_mem haw)
            · rw [st2_k _ _ _ e]
              exact i6 k (by omega), x1, x2⟩ (Nat.le_refl _) (fun k hk2 => by
            rw [x3 2 (by decide) (by decide) (by decide) (by decide), st2_aj _ _ _ _ (by decide)]
            by_cases e : k = at_
            · subst e
              rw [st2_s]
            · rw [st2_k _ _ _ e]
              exact hk k (by omega))
      refine ⟨χ', τ', C', V', D', y1, y2, y3, ?_⟩
      rw [he]
      refine x4.trans ?_
      unfold f_Ch_catchUp_102
      rw [nm_d, nI_1]
      exact y4
    by_cases c1 : D ≤ at_
    · exact anew (by rw [step, if_pos (nI_le c1 (by omega))])
    · rw [if_neg (nI_ge (by omega) (by omega)), ck_n (by omega) (by omega), hw.at (by omega) haw, b1_some, nI_clamp (by omega)] at step
      by_cases c2 : χ 2 at_ = w.getD at_ 0
      · rw [if_pos c2] at step
        unfold f_Ch_catchUp_102 at step
        rw [nm_d, nI_1] at step
        obtain ⟨χ', τ', C', V', D', y1, y2, y3, y4⟩ := ih (at_ + 1) n χ τ C V us D (by omega) (by omega) ⟨i1, i2, i3, i4, i5, i6, i7, i8⟩ (by omega) (fun k hk' => by
          by_cases e : k = at_
          · subst e
            exact c2
          · exact hk k (by omega))
        exact ⟨χ', τ', C', V', D', y1, y2, y3, by rw [step]; exact y4⟩
      · exact anew (by rw [step, if_neg c2])
