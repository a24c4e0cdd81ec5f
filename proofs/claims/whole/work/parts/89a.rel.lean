/-! the class's states and the model's -/
def MSt (μ : Nat → Nat → Int32) (G : Gm) (w t : List Int32) : Prop := MdG μ G ∧ MdW μ w ∧ MdT μ t ∧ (μ 0 14 ≠ 0 → Kn μ G w.length)
def Bgn (γ μ : Nat → Nat → Int32) (G : Gm) : Prop := (γ 0 3 = 0 ∧ μ 0 5 = 0) ∨ (γ 0 3 = 1 ∧ μ 0 5 = 1 ∧ gR G < 30 ∧ ∃ sb l, sb < gS G ∧ l.length ≤ 8 ∧ (∀ z, z ∈ l → okSym (gV G) z) ∧ (vl l).length ≤ 4 ∧ γ 0 4 = nI (vl l).length ∧ γ 2 (gR G) = nI sb ∧ RuleAt γ G (gR G) l ∧ μ 2 30 = nI sb ∧ MdR μ 30 l)
def RlR (x γ χ τ ρ tp μ : Nat → Nat → Int32) : Prop := ∃ G w t, GrOK γ G ∧ Bgn γ μ G ∧ SyL 12 ρ w ∧ (∀ z, z ∈ w → okSym (gV G) z) ∧ SyL 200 tp t ∧ x 0 8 = μ 0 13 ∧ ChR G χ τ ∧ MSt μ G w t
theorem MF.same {μ μ' : Nat → Nat → Int32} {c : Nat} {A : List Int32 → Prop} (h : MF μ c A) (e7 : μ' 7 = μ 7) (e8 : μ' 8 = μ 8) (e9 : μ' 9 = μ 9) : MF μ' c A := by
  obtain ⟨v, p, h1, h2, h3, h4⟩ := h
  exact ⟨v, p, by rw [e7]; exact h1, h2, h3.same e8 e9, h4⟩
theorem Kn.same {μ μ' : Nat → Nat → Int32} {G : Gm} {l : Nat} (h : Kn μ G l) (e5 : μ' 5 = μ 5) (e7 : μ' 7 = μ 7) (e8 : μ' 8 = μ 8) (e9 : μ' 9 = μ 9) : Kn μ' G l := by
  intro s hs i j h1 h2
  rw [e5]
  exact (h s hs i j h1 h2).same e7 e8 e9
theorem MdR.same {μ μ' : Nat → Nat → Int32} {r : Nat} {l : List Int32} (h : MdR μ r l) (e3 : μ' 3 = μ 3) (e4 : μ' 4 = μ 4) : MdR μ' r l := by
  unfold MdR
  rw [e3, e4]
  exact h
theorem MdW.same {μ μ' : Nat → Nat → Int32} {w : List Int32} (h : MdW μ w) (e0 : μ' 0 10 = μ 0 10) (e5 : μ' 5 = μ 5) : MdW μ' w := by
  unfold MdW
  rw [e0, e5]
  exact h
theorem MdT.same {μ μ' : Nat → Nat → Int32} {t : List Int32} (h : MdT μ t) (e0 : μ' 0 12 = μ 0 12) (e6 : μ' 6 = μ 6) : MdT μ' t := by
  unfold MdT
  rw [e0, e6]
  exact h
theorem MdG.same {μ μ' : Nat → Nat → Int32} {G : Gm} (h : MdG μ G) (e0 : μ' 0 1 = μ 0 1 ∧ μ' 0 2 = μ 0 2 ∧ μ' 0 4 = μ 0 4) (e1 : μ' 1 = μ 1) (e2 : μ' 2 = μ 2) (e3 : μ' 3 = μ 3) (e4 : μ' 4 = μ 4) : MdG μ' G := by
  unfold MdG MdR
  rw [e0.1, e0.2.1, e0.2.2, e1, e2, e3, e4]
  exact h
theorem MSt.same {μ μ' : Nat → Nat → Int32} {G : Gm} {w t : List Int32} (h : MSt μ G w t) (e : ∀ b, b ≠ 0 → b < 10 → μ' b = μ b) (e0 : ∀ k, k ≠ 0 → k < 15 → μ' 0 k = μ 0 k) : MSt μ' G w t := by
  obtain ⟨h1, h2, h3, h4⟩ := h
  refine ⟨h1.same ⟨e0 1 (by decide) (by decide), e0 2 (by decide) (by decide), e0 4 (by decide) (by decide)⟩ (e 1 (by decide) (by decide)) (e 2 (by decide) (by decide)) (e 3 (by decide) (by decide)) (e 4 (by decide) (by decide)), h2.same (e0 10 (by decide) (by decide)) (e 5 (by decide) (by decide)), h3.same (e0 12 (by decide) (by decide)) (e 6 (by decide) (by decide)), fun q => (h4 (by rw [e0 14 (by decide) (by decide)] at q; exact q)).same (e 5 (by decide) (by decide)) (e 7 (by decide) (by decide)) (e 8 (by decide) (by decide)) (e 9 (by decide) (by decide))⟩
theorem Bgn.same {γ μ μ' : Nat → Nat → Int32} {G : Gm} (h : Bgn γ μ G) (e0 : μ' 0 5 = μ 0 5) (e2 : μ' 2 = μ 2) (e3 : μ' 3 = μ 3) (e4 : μ' 4 = μ 4) : Bgn γ μ' G := by
  unfold Bgn MdR
  rw [e0, e2, e3, e4]
  exact h
theorem RlR.same {x γ χ τ ρ tp μ μ' : Nat → Nat → Int32} (h : RlR x γ χ τ ρ tp μ) (e : ∀ b, b ≠ 0 → b < 10 → μ' b = μ b) (e0 : ∀ k, k ≠ 0 → k < 15 → μ' 0 k = μ 0 k) : RlR x γ χ τ ρ tp μ' := by
  obtain ⟨G, w, t, h1, h2, h3, h4, h5, h6, h7, h8⟩ := h
  exact ⟨G, w, t, h1, h2.same (e0 5 (by decide) (by decide)) (e 2 (by decide) (by decide)) (e 3 (by decide) (by decide)) (e 4 (by decide) (by decide)), h3, h4, h5, by rw [h6, e0 13 (by decide) (by decide)], h7, h8.same e e0⟩
theorem RlR.th {x γ χ τ ρ tp μ : Nat → Nat → Int32} (h : RlR x γ χ τ ρ tp μ) : RlR x γ χ τ ρ tp (st2 μ 0 0 0) := h.same (fun b b0 _ => st2_a _ _ _ b0) (fun k k0 _ => st2_k _ _ _ k0)
theorem RuleAt.same {γ γ' : Nat → Nat → Int32} {G : Gm} {r : Nat} {l : List Int32} (h : RuleAt γ G r l) (e : ∀ c, 3 ≤ c → c < 8 → γ' c = γ c) : RuleAt γ' G r l := by
  unfold RuleAt
  rw [e 3 (by decide) (by decide), e 4 (by decide) (by decide), e 5 (by decide) (by decide), e 6 (by decide) (by decide), e 7 (by decide) (by decide)]
  exact h
theorem RuleAt.ext {γ : Nat → Nat → Int32} {G G' : Gm} {r : Nat} {l : List Int32} (h : RuleAt γ G r l) (hx : ∀ z, z ∈ dv l → sX G' z = sX G z) : RuleAt γ G' r l :=
  ⟨h.1, h.2.1, h.2.2.1, fun j hj => by rw [hx _ (getD_mem hj)]; exact h.2.2.2 j hj⟩
/-- sort -/
theorem c_sort {x γ χ τ ρ tp μ : Nat → Nat → Int32} (h : RlR x γ χ τ ρ tp μ) : ∃ r γ' μ', m_Rt_sort x γ = some (r, γ') ∧ m_Md_sort μ = some (r, μ') ∧ RlR x γ' χ τ ρ tp μ' := by
  have hth := h.th
  obtain ⟨G, w, t, h1, h2, h3, h4, h5, h6, h7, h8⟩ := h
  have hS := h1.1.1
  rw [p_Rt_sort x h1.2.1 hS, p_Md_sort h8.1.2.1 hS]
  by_cases c : gS G < 6
  · rw [if_pos c, if_pos c]
    refine ⟨_, _, _, rfl, rfl, ((gS G + 1, gV G, gR G), gvs G, grs G, gry G), w, t, ?_, ?_, h3, h4, h5, ?_, ?_, ?_⟩
    · obtain ⟨⟨g1, g2, g3, g4, g5⟩, k2, k3, k4, k5, k6⟩ := h1
      refine ⟨⟨by show gS G + 1 ≤ 6; omega, g2, g3, fun v hv => Nat.lt_succ_of_lt (g4 v hv), fun r hr => ⟨Nat.lt_succ_of_lt (g5 r hr).1, (g5 r hr).2⟩⟩, st2_s _ _ _ _, by rw [st2_k _ _ _ (by decide)]; exact k3, by rw [st2_k _ _ _ (by decide)]; exact k4, fun v hv => by rw [st2_aj _ _ _ _ (by decide)]; exact k5 v hv, fun r hr => ⟨by rw [st2_aj _ _ _ _ (by decide)]; exact (k6 r hr).1, ((k6 r hr).2.same (fun c c3 c8 => st2_a _ _ _ (by omega))).ext (fun _ _ => rfl)⟩⟩
    · rcases h2 with ⟨b1, b2⟩ | ⟨b1, b2, b3, sb, l, q1, q2, q3, q4, q5, q6, q7, q8, q9⟩
      · exact Or.inl ⟨by rw [st2_k _ _ _ (by decide)]; exact b1, by rw [st2_k _ _ _ (by decide), st2_k _ _ _ (by decide), st2_k _ _ _ (by decide)]; exact b2⟩
      · refine Or.inr ⟨by rw [st2_k _ _ _ (by decide)]; exact b1, by rw [st2_k _ _ _ (by decide), st2_k _ _ _ (by decide), st2_k _ _ _ (by decide)]; exact b2, b3, sb, l, Nat.lt_succ_of_lt q1, q2, q3, q4, by rw [st2_k _ _ _ (by decide)]; exact q5, by rw [st2_aj _ _ _ _ (by decide)]; exact q6, (q7.same (fun c c3 c8 => st2_a _ _ _ (by omega))).ext (fun _ _ => rfl), by rw [st2_aj _ _ _ _ (by decide), st2_aj _ _ _ _ (by decide), st2_aj _ _ _ _ (by decide)]; exact q8, q9.same (by rw [st2_a _ _ _ (by decide), st2_a _ _ _ (by decide), st2_a _ _ _ (by decide)]) (by rw [st2_a _ _ _ (by decide), st2_a _ _ _ (by decide), st2_a _ _ _ (by decide)])⟩
    · rw [st2_k _ _ _ (by decide), st2_k _ _ _ (by decide), st2_k _ _ _ (by decide)]
      exact h6
    · exact ChR.extV (G' := ((gS G + 1, gV G, gR G), gvs G, grs G, gry G)) h1.1 ⟨rfl, rfl, rfl, Nat.le_refl _, fun _ _ => rfl⟩ h7
    · obtain ⟨⟨⟨g1, g2, g3, g4, g5⟩, k2, k3, k4, k5, k6⟩, m2, m3, m4⟩ := h8
      have ea : ∀ b, b ≠ 0 → st2 (st2 (st2 μ 0 0 0) 0 1 (nI (gS G + 1))) 0 14 0 b = μ b := fun b hb => by rw [st2_a _ _ _ hb, st2_a _ _ _ hb, st2_a _ _ _ hb]
      have ek : ∀ k, k ≠ 0 → k ≠ 1 → k ≠ 14 → st2 (st2 (st2 μ 0 0 0) 0 1 (nI (gS G + 1))) 0 14 0 0 k = μ 0 k := fun k k0 k1 k14 => by rw [st2_k _ _ _ k14, st2_k _ _ _ k1, st2_k _ _ _ k0]
      refine ⟨⟨⟨by show gS G + 1 ≤ 6; omega, g2, g3, fun v hv => Nat.lt_succ_of_lt (g4 v hv), fun r hr => ⟨Nat.lt_succ_of_lt (g5 r hr).1, (g5 r hr).2⟩⟩, by rw [st2_k _ _ _ (by decide), st2_s]; rfl, by rw [ek 2 (by decide) (by decide) (by decide)]; exact k3, by rw [ek 4 (by decide) (by decide) (by decide)]; exact k4, fun v hv => by rw [ea 1 (by decide)]; exact k5 v hv, fun r hr => ⟨by rw [ea 2 (by decide)]; exact (k6 r hr).1, (k6 r hr).2.same (ea 3 (by decide)) (ea 4 (by decide))⟩⟩, m2.same (ek 10 (by decide) (by decide) (by decide)) (ea 5 (by decide)), m3.same (ek 12 (by decide) (by decide) (by decide)) (ea 6 (by decide)), fun q => absurd (st2_s _ _ _ _) q⟩
  · rw [if_neg c, if_neg c]
    exact ⟨_, _, _, rfl, rfl, hth⟩
/-- variable -/
theorem c_variable {x γ χ τ ρ tp μ : Nat → Nat → Int32} (h : RlR x γ χ τ ρ tp μ) (a : Int32) : ∃ r γ' μ', m_Rt_variable x γ a = some (r, γ') ∧ m_Md_variable μ a = some (r, μ') ∧ RlR x γ' χ τ ρ tp μ' := by
  have hth := h.th
  obtain ⟨G, w, t, h1, h2, h3, h4, h5, h6, h7, h8⟩ := h
  have hS := h1.1.1
  have hV := h1.1.2.1
  rcases p_Rt_variable x h1.2.1 h8.1.2.1 hS h1.2.2.1 h8.1.2.2.1 hV a with ⟨j, hj, hv, e1, e2⟩ | ⟨e1, e2⟩
  · rw [e1, e2]
    obtain ⟨G', eG⟩ : ∃ G' : Gm, G' = ((gS G, gV G + 1, gR G), (fun v => if v = gV G then j else gvs G v), grs G, gry G) := ⟨_, rfl⟩
    have eS : gS G' = gS G := by rw [eG]; rfl
    have eV : gV G' = gV G + 1 := by rw [eG]; rfl
    have eR : gR G' = gR G := by rw [eG]; rfl
    have evs : ∀ v, gvs G' v = if v = gV G then j else gvs G v := fun v => by rw [eG]; rfl
    have ers : grs G' = grs G := by rw [eG]; rfl
    have ery : gry G' = gry G := by rw [eG]; rfl
    have ext : ExtV G G' := ⟨eR, ers, ery, by omega, fun v hv => by rw [evs, if_neg (by omega)]⟩
    have hok : GOK G' := by
      obtain ⟨g1, g2, g3, g4, g5⟩ := h1.1
      refine ⟨by omega, by omega, by omega, fun v hv => ?_, fun r hr => ?_⟩
      · rw [evs, eS]
        by_cases e : v = gV G
        · rw [if_pos e]
          exact hj
        · rw [if_neg e]
          exact g4 v (by omega)
      · rw [ers, ery, eS]
        obtain ⟨q1, q2, q3, q4, q5⟩ := g5 r (by omega)
        exact ⟨q1, q2, q3, fun z hz => okSym_mono (by omega) (q4 z hz), q5⟩
    have hsx : ∀ l : List Int32, (∀ z, z ∈ l → okSym (gV G) z) → ∀ z, z ∈ dv l → sX G' z = sX G z := fun l hl z hz => ext.sx hV (hl z (dv_mem.mp hz).1) (dv_mem.mp hz).2
    have ga : ∀ c, c ≠ 0 → c ≠ 1 → st2 (st2 γ 1 (gV G) (nI j)) 0 1 (nI (gV G + 1)) c = γ c := fun c c0 c1 => by rw [st2_a _ _ _ c0, st2_a _ _ _ c1]
    have gk : ∀ k, k ≠ 1 → st2 (st2 γ 1 (gV G) (nI j)) 0 1 (nI (gV G + 1)) 0 k = γ 0 k := fun k k1 => by rw [st2_k _ _ _ k1, st2_aj _ _ _ _ (by decide)]
    have ma : ∀ b, b ≠ 0 → b ≠ 1 → st2 (st2 (st2 μ 0 0 0) 1 (gV G) (nI j)) 0 2 (nI (gV G + 1)) b = μ b := fun b b0 b1 => by rw [st2_a _ _ _ b0, st2_a _ _ _ b1, st2_a _ _ _ b0]
    have mk : ∀ k, k ≠ 0 → k ≠ 2 → st2 (st2 (st2 μ 0 0 0) 1 (gV G) (nI j)) 0 2 (nI (gV G + 1)) 0 k = μ 0 k := fun k k0 k2 => by rw [st2_k _ _ _ k2, st2_aj _ _ _ _ (by decide), st2_k _ _ _ k0]
    refine ⟨_, _, _, rfl, rfl, G', w, t, ?_, ?_, h3, fun z hz => okSym_mono (by omega) (h4 z hz), h5, by rw [mk 13 (by decide) (by decide)]; exact h6, h7.extV h1.1 ext, ?_⟩
    · obtain ⟨_, k2, k3, k4, k5, k6⟩ := h1
      refine ⟨hok, by rw [gk 0 (by decide), eS]; exact k2, by rw [st2_s, eV], by rw [gk 2 (by decide), eR]; exact k4, fun v hv => ?_, fun r hr => ?_⟩
      · rw [st2_aj _ _ _ _ (by decide), evs]
        by_cases e : v = gV G
        · rw [if_pos e, e, st2_s]
        · rw [if_neg e, st2_k _ _ _ e]
          exact k5 v (by omega)
      · rw [ers, ery, ga 2 (by decide) (by decide)]
        have hr' : r < gR G := by omega
        exact ⟨(k6 r hr').1, ((k6 r hr').2.same (fun c c3 c8 => ga c (by omega) (by omega))).ext (hsx _ (h8.1.1.2.2.2.2 r hr').2.2.2.1)⟩
    · rcases h2 with ⟨b1, b2⟩ | ⟨b1, b2, b3, sb, l, q1, q2, q3, q4, q5, q6, q7, q8, q9⟩
      · exact Or.inl ⟨by rw [gk 3 (by decide)]; exact b1, by rw [mk 5 (by decide) (by decide)]; exact b2⟩
      · refine Or.inr ⟨by rw [gk 3 (by decide)]; exact b1, by rw [mk 5 (by decide) (by decide)]; exact b2, by omega, sb, l, by omega, q2, fun z hz => okSym_mono (by omega) (q3 z hz), q4, by rw [gk 4 (by decide)]; exact q5, by rw [ga 2 (by decide) (by decide), eR]; exact q6, ?_, by rw [ma 2 (by decide) (by decide)]; exact q8, q9.same (ma 3 (by decide) (by decide)) (ma 4 (by decide) (by decide))⟩
        rw [eR]
        exact (q7.same (fun c c3 c8 => ga c (by omega) (by omega))).ext (hsx l q3)
    · obtain ⟨⟨_, k2, k3, k4, k5, k6⟩, m2, m3, m4⟩ := h8
      refine ⟨⟨hok, by rw [mk 1 (by decide) (by decide), eS]; exact k2, by rw [st2_s, eV], by rw [mk 4 (by decide) (by decide), eR]; exact k4, fun v hv => ?_, fun r hr => ?_⟩, m2.same (mk 10 (by decide) (by decide)) (ma 5 (by decide) (by decide)), m3.same (mk 12 (by decide) (by decide)) (ma 6 (by decide) (by decide)), fun q => ?_⟩
      · rw [st2_aj _ _ _ _ (by decide), evs]
        by_cases e : v = gV G
        · rw [if_pos e, e, st2_s]
        · rw [if_neg e, st2_k _ _ _ e, st2_aj _ _ _ _ (by decide)]
          exact k5 v (by omega)
      · rw [ers, ery, ma 2 (by decide) (by decide)]
        have hr' : r < gR G := by omega
        exact ⟨(k6 r hr').1, (k6 r hr').2.same (ma 3 (by decide) (by decide)) (ma 4 (by decide) (by decide))⟩
      · have hK := (m4 (by rw [mk 14 (by decide) (by decide)] at q; exact q)).same (ma 5 (by decide) (by decide)) (ma 7 (by decide) (by decide)) (ma 8 (by decide) (by decide)) (ma 9 (by decide) (by decide))
        intro s hs i j' hij hjl
        obtain ⟨v, p, z1, z2, z3, z4⟩ := hK s (by omega) i j' hij hjl
        have hy : ∀ z, z ∈ sg (st2 (st2 (st2 μ 0 0 0) 1 (gV G) (nI j)) 0 2 (nI (gV G + 1)) 5) i j' → okSym (gV G) z := by
          rw [ma 5 (by decide) (by decide)]
          intro z hz
          obtain ⟨k, k1, k2, rfl⟩ := sgl_mem _ _ _ hz
          rw [m2.2.2 k (by omega)]
          exact okW h4 (by omega)
        exact ⟨v, p, z1, z2.congr (fun c => Sy_ext h1.1 ext hy), z3, z4.congr (fun c => Sy_ext h1.1 ext hy)⟩
  · exact ⟨_, _, _, e1, e2, hth⟩
