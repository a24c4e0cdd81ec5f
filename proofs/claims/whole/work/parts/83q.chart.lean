/-- the chart at any time -/
def ChR (G : Gm) (χ τ : Nat → Nat → Int32) : Prop := ∃ q us, χ 0 5 = nI q ∧ q ≤ gR G ∧ UsQ G χ q us ∧ RcQ G χ q ∧ PC τ ∧ (q = gR G → ∃ C V D, ChD G χ τ C V us D)
theorem ChD.r {G : Gm} {χ τ : Nat → Nat → Int32} {C : Nat → List Int32} {V : Nat → Prop} {us : List Nat} {D : Nat} (h : ChD G χ τ C V us D) : ChR G χ τ :=
  ⟨gR G, us, h.2.2.1, Nat.le_refl _, h.2.2.2.1, h.2.2.2.2.1, h.2.2.2.2.2.2.2, fun _ => ⟨C, V, D, h⟩⟩
theorem p_catchUp {N : Nat} (hN : 151 ≤ N) {γ ρ χ τ : Nat → Nat → Int32} {G : Gm} (hG : GrOK γ G) {w : List Int32} (hw : SyL 12 ρ w) (hwo : ∀ x, x ∈ w → okSym (gV G) x) (h : ChR G χ τ) :
    ∃ χ' τ' C V us D, ChD G χ' τ' C V us D ∧ w.length ≤ D ∧ (∀ k, k < w.length → χ' 2 k = w.getD k 0) ∧ m_Ch_catchUp N 12 χ γ τ ρ = some (χ', τ') := by
  have hR := hG.1.2.2.1
  have hl := hw.2.1
  obtain ⟨q, us, h5, hq, hU, hC, hpc, hD⟩ := h
  by_cases e : q = gR G
  · obtain ⟨C, V, D, hD⟩ := hD e
    obtain ⟨χ', τ', C', V', D', g1, g2, g3, g4⟩ := p_catchUp_25 hN hG hw hwo w.length 0 N χ τ C V us D (by omega) (by omega) hD (by omega) (fun k hk => by omega)
    refine ⟨χ', τ', C', V', us, D', g1, g2, g3, ?_⟩
    unfold m_Ch_catchUp f_Ch_catchUp_0
    rw [hG.2.2.2.1, h5, if_pos (nI_le (by omega) (by omega)), ← nI_0]
    exact g4
  · obtain ⟨χ1, us1, s1, s2, s3, s4, s5, s6⟩ := p_seeRules (N := N) (by omega) hG hq h5 hU hC
    have hD0 : ChD G (st2 χ1 0 4 0) τ (fun _ => []) (fun _ => False) us1 0 := by
      refine ⟨by rw [st2_s, nI_0], by omega, by rw [st2_k _ _ _ (by decide)]; exact s5, ⟨s1.1, s1.2.1, s1.2.2.1, by rw [st2_k _ _ _ (by decide)]; exact s1.2.2.2.1, fun k hk => by rw [st2_aj _ _ _ _ (by decide)]; exact s1.2.2.2.2 k hk⟩, fun s hs b hb => by rw [st2_aj _ _ _ _ (by decide)]; exact s2 s hs b hb, fun k hk => by omega, ⟨fun s hs i j hij hj => by omega, fun D' _ => ⟨fun t ht => ht.1.elim, fun t ht => ht⟩, fun t ht => ht.elim⟩, hpc⟩
    obtain ⟨χ', τ', C', V', D', g1, g2, g3, g4⟩ := p_catchUp_25 hN hG hw hwo w.length 0 N _ τ _ _ us1 0 (by omega) (by omega) hD0 (by omega) (fun k hk => by omega)
    refine ⟨χ', τ', C', V', us1, D', g1, g2, g3, ?_⟩
    unfold m_Ch_catchUp f_Ch_catchUp_0
    rw [hG.2.2.2.1, h5, if_neg (nI_ge (by omega) (by omega)), s6, b1_some, nm_d]
    rw [nI_0] at g4
    exact g4
/-- a cell of the chart -/
theorem ChD.cell {G : Gm} {χ τ : Nat → Nat → Int32} {C : Nat → List Int32} {V : Nat → Prop} {us : List Nat} {D : Nat} (h : ChD G χ τ C V us D) {s i j : Nat} (hs : s < 6) (hij : i < j) (hj : j ≤ D) : ∃ v p, χ 1 (cO s i j) = nI v ∧ Cnt (Sy G s (sg (χ 2) i j)) v ∧ Pair τ C V (cO s i j) p ∧ Two (Sy G s (sg (χ 2) i j)) p := h.2.2.2.2.2.2.1.1 s hs i j hij hj
/-! the grammar grows -/
def ExtV (G G' : Gm) : Prop := gR G' = gR G ∧ grs G' = grs G ∧ gry G' = gry G ∧ gV G ≤ gV G' ∧ ∀ v, v < gV G → gvs G' v = gvs G v
theorem okSym_mono {n m : Nat} (h : n ≤ m) {x : Int32} (k : okSym n x) : okSym m x := by
  rcases k with k | ⟨v, hv, e⟩
  · exact Or.inl k
  · exact Or.inr ⟨v, by omega, e⟩
theorem ExtV.sx {G G' : Gm} (h : ExtV G G') (h20 : gV G ≤ 20) {x : Int32} (k : okSym (gV G) x) (hn : x < 0) : sX G' x = sX G x := by
  rcases k with ⟨c, hc, rfl⟩ | ⟨v, hv, rfl⟩
  · exact absurd hn (nI_pos (by omega))
  · unfold sX
    rw [vI_vS (by omega)]
    exact h.2.2.2.2 v hv
theorem T_ext {G G' : Gm} (h : GOK G) (k : ExtV G G') : ∀ (n s : Nat) (c y : List Int32), (∀ x, x ∈ y → okSym (gV G) x) → (T G n s c y ↔ T G' n s c y)
  | 0, _, _, _, _ => Iff.rfl
  | n + 1, s, c, y, hy => by
    have hx : ∀ r, r < gR G → ∀ x, x ∈ dv (gry G r) → sX G' x = sX G x := by
      intro r hr x hx
      obtain ⟨q1, q2⟩ := dv_mem.mp hx
      exact k.sx h.2.1 ((h.2.2.2.2 r hr).2.2.2.1 x q1) q2
    have hg : ∀ (r : Nat) (g : Int32 → List Int32), y = (gry G r).flatMap (sub g) → ∀ x, x ∈ dv (gry G r) → ∀ z, z ∈ g x → okSym (gV G) z := by
      intro r g e x hx z hz
      obtain ⟨q1, q2⟩ := dv_mem.mp hx
      apply hy
      rw [e]
      refine List.mem_flatMap.mpr ⟨x, q1, ?_⟩
      unfold sub
      rw [if_pos q2]
      exact hz
    have e1 : gR G' = gR G := k.1
    have e2 : grs G' = grs G := k.2.1
    have e3 : gry G' = gry G := k.2.2.1
    show ((∃ x : Int32, x < 0 ∧ c = [x] ∧ y = [x] ∧ sX G x = s) ∨ ∃ r, r < gR G ∧ grs G r = s ∧ ∃ f g : Int32 → List Int32, c = nI r :: (dv (gry G r)).flatMap f ∧ y = (gry G r).flatMap (sub g) ∧ ∀ x, x ∈ dv (gry G r) → T G n (sX G x) (f x) (g x)) ↔ ((∃ x : Int32, x < 0 ∧ c = [x] ∧ y = [x] ∧ sX G' x = s) ∨ ∃ r, r < gR G' ∧ grs G' r = s ∧ ∃ f g : Int32 → List Int32, c = nI r :: (dv (gry G' r)).flatMap f ∧ y = (gry G' r).flatMap (sub g) ∧ ∀ x, x ∈ dv (gry G' r) → T G' n (sX G' x) (f x) (g x))
    rw [e1, e2, e3]
    constructor
    · rintro (⟨x, x1, x2, x3, x4⟩ | ⟨r, r1, r2, f, g, r3, r4, r5⟩)
      · exact Or.inl ⟨x, x1, x2, x3, by rw [k.sx h.2.1 (hy x (by rw [x3]; simp)) x1]; exact x4⟩
      · refine Or.inr ⟨r, r1, r2, f, g, r3, r4, fun x hx' => ?_⟩
        rw [hx r r1 x hx']
        exact (T_ext h k n _ _ _ (hg r g r4 x hx')).mp (r5 x hx')
    · rintro (⟨x, x1, x2, x3, x4⟩ | ⟨r, r1, r2, f, g, r3, r4, r5⟩)
      · exact Or.inl ⟨x, x1, x2, x3, by rw [k.sx h.2.1 (hy x (by rw [x3]; simp)) x1] at x4; exact x4⟩
      · refine Or.inr ⟨r, r1, r2, f, g, r3, r4, fun x hx' => ?_⟩
        have := r5 x hx'
        rw [hx r r1 x hx'] at this
        exact (T_ext h k n _ _ _ (hg r g r4 x hx')).mpr this
theorem Sy_ext {G G' : Gm} (h : GOK G) (k : ExtV G G') {s : Nat} {c y : List Int32} (hy : ∀ x, x ∈ y → okSym (gV G) x) : Sy G s y c ↔ Sy G' s y c := by
  constructor
  · rintro ⟨n, hn⟩
    exact ⟨n, (T_ext h k n s c y hy).mp hn⟩
  · rintro ⟨n, hn⟩
    exact ⟨n, (T_ext h k n s c y hy).mpr hn⟩
/-- chains of rules that both grammars have -/
theorem Pv_ext {G G' : Gm} {q : Nat} (h : ∀ r, r < q → (r < gR G ↔ r < gR G') ∧ grs G' r = grs G r ∧ gry G' r = gry G r ∧ (r < gR G → isU G r → uS G' r = uS G r)) : ∀ (u : List Nat) (s : Nat), (∀ r, r ∈ u → r < q) → (Pv G s u ↔ Pv G' s u) ∧ (Pv G s u → pe G' s u = pe G s u)
  | [], s, _ => ⟨Iff.rfl, fun _ => rfl⟩
  | r :: u, s, hu => by
    obtain ⟨h1, h2, h3, h4⟩ := h r (hu r List.mem_cons_self)
    have hI : isU G' r ↔ isU G r := by
      unfold isU
      rw [h3]
    have ih := fun s => Pv_ext h u s (fun z hz => hu z (List.mem_cons_of_mem _ hz))
    constructor
    · constructor
      · rintro ⟨p1, p2, p3, p4⟩
        refine ⟨h1.mp p1, hI.mpr p2, by rw [h2]; exact p3, ?_⟩
        rw [h4 p1 p2]
        exact (ih _).1.mp p4
      · rintro ⟨p1, p2, p3, p4⟩
        have p1' := h1.mpr p1
        have p2' := hI.mp p2
        refine ⟨p1', p2', by rw [← h2]; exact p3, ?_⟩
        rw [h4 p1' p2'] at p4
        exact (ih _).1.mpr p4
    · rintro ⟨p1, p2, p3, p4⟩
      show pe G' (uS G' r) u = pe G (uS G r) u
      rw [h4 p1 p2]
      exact (ih _).2 p4
theorem Rq_ext {G G' : Gm} {q : Nat} (h : ∀ r, r < q → (r < gR G ↔ r < gR G') ∧ grs G' r = grs G r ∧ gry G' r = gry G r ∧ (r < gR G → isU G r → uS G' r = uS G r)) {s b : Nat} : Rq G q s b ↔ Rq G' q s b := by
  constructor
  · rintro ⟨u, h1, h2, h3, h4⟩
    obtain ⟨k1, k2⟩ := Pv_ext h u s h2
    exact ⟨u, h1, h2, k1.mp h3, by rw [k2 h3]; exact h4⟩
  · rintro ⟨u, h1, h2, h3, h4⟩
    obtain ⟨k1, k2⟩ := Pv_ext h u s h2
    have h3' := k1.mpr h3
    exact ⟨u, h1, h2, h3', by rw [← k2 h3']; exact h4⟩
theorem ChR.extV {G G' : Gm} (hG : GOK G) (k : ExtV G G') {χ τ : Nat → Nat → Int32} (h : ChR G χ τ) : ChR G' χ τ := by
  obtain ⟨q, us, h5, hq, hU, hC, hpc, hD⟩ := h
  have e1 := k.1
  have hI : ∀ r, isU G' r ↔ isU G r := by
    intro r
    unfold isU
    rw [k.2.2.1]
  have hr : ∀ r, r < q → (r < gR G ↔ r < gR G') ∧ grs G' r = grs G r ∧ gry G' r = gry G r ∧ (r < gR G → isU G r → uS G' r = uS G r) := by
    intro r _
    refine ⟨by rw [e1], by rw [k.2.1], by rw [k.2.2.1], fun h1 h2 => ?_⟩
    obtain ⟨x, x1, x2⟩ := h2
    unfold uS
    rw [k.2.2.1, x2]
    exact k.sx hG.2.1 ((hG.2.2.2.2 r h1).2.2.2.1 x (by rw [x2]; simp)) x1
  have hU' : UsQ G' χ q us := ⟨hU.1, hU.2.1, fun r => by rw [hI r]; exact hU.2.2.1 r, hU.2.2.2⟩
  have hC' : RcQ G' χ q := fun s hs b hb => by rw [← Rq_ext hr]; exact hC s hs b hb
  refine ⟨q, us, h5, by omega, hU', hC', hpc, fun e => ?_⟩
  obtain ⟨C, V, D, d1, d2, d3, d4, d5, d6, d7, d8⟩ := hD (by omega)
  have har : ar G' = ar G := by
    funext c
    unfold ar
    rw [k.2.2.1]
  refine ⟨C, V, D, d1, d2, by rw [e1]; exact d3, by rw [← e]; exact hU', by rw [← e]; exact hC', fun k' hk => okSym_mono k.2.2.2.1 (d6 k' hk), ⟨fun s hs i j hij hj => (d7.1 s hs i j hij hj).congr (fun c => ?_), fun D' hD' => by rw [har]; exact d7.2.1 D' hD', d7.2.2⟩, d8⟩
  apply Sy_ext hG k
  intro x hx
  obtain ⟨z, z1, z2, z3⟩ := sgl_mem _ _ _ hx
  rw [z3]
  exact d6 z (by omega)
/-- one rule more -/
theorem ChR.extR {G G' : Gm} (e1 : gR G' = gR G + 1) (e2 : ∀ r, r < gR G → grs G' r = grs G r ∧ gry G' r = gry G r) (e3 : gvs G' = gvs G) {χ τ : Nat → Nat → Int32} (h : ChR G χ τ) : ChR G' χ τ := by
  obtain ⟨q, us, h5, hq, hU, hC, hpc, _⟩ := h
  have hI : ∀ r, r < q → (isU G' r ↔ isU G r) := by
    intro r hr
    unfold isU
    rw [(e2 r (by omega)).2]
  have hr : ∀ r, r < q → (r < gR G ↔ r < gR G') ∧ grs G' r = grs G r ∧ gry G' r = gry G r ∧ (r < gR G → isU G r → uS G' r = uS G r) := by
    intro r hr
    refine ⟨by constructor <;> omega, (e2 r (by omega)).1, (e2 r (by omega)).2, fun h1 h2 => ?_⟩
    unfold uS sX
    rw [(e2 r h1).2, e3]
  refine ⟨q, us, h5, by omega, ⟨hU.1, hU.2.1, fun r => ?_, hU.2.2.2⟩, fun s hs b hb => by rw [← Rq_ext hr]; exact hC s hs b hb, hpc, fun e => by omega⟩
  rw [hU.2.2.1 r]
  constructor
  · rintro ⟨h1, h2⟩
    exact ⟨h1, (hI r h1).mpr h2⟩
  · rintro ⟨h1, h2⟩
    exact ⟨h1, (hI r h1).mp h2⟩
