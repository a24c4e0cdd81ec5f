theorem Pt.pf {G : Gm} (h : GOK G) {χ τ : Nat → Nat → Int32} {C : Nat → List Int32} {V Q : Nat → Prop} {a : Nat → Int32} {r : Nat} (hr : r < gR G) {f t : Nat → Nat} (hS : TT τ C (ar G) V Q) (hP : Pt G χ τ C V Q a r f t) :
    Pf G r Q C (fun k => cO (sX G ((dv (gry G r)).getD k 0)) (f k) (t k)) (fun k => sg a (f k) (t k)) (fun k => V (2 * cO (sX G ((dv (gry G r)).getD k 0)) (f k) (t k) + 1)) ∧ ∀ q, q < (dv (gry G r)).length → ¬ V (2 * cO (sX G ((dv (gry G r)).getD q 0)) (f q) (t q) + 1) → τ 1 (2 * cO (sX G ((dv (gry G r)).getD q 0)) (f q) (t q) + 1) = 0 := by
  have key : ∀ k, k < (dv (gry G r)).length → _ := fun k hk => hP k hk
  constructor
  · intro k hk
    obtain ⟨_, _, kf, kt, ⟨v, p, w1, w2, w3, w4⟩, ⟨e, he⟩, hq⟩ := hP k hk
    have hs6 := dv_s6 h hr hk
    have hcl := cO_lt hs6 kf kt
    have hq0 := hq 0 (by omega)
    have hq1 := hq 1 (by omega)
    rw [Nat.add_zero] at hq0
    obtain ⟨t1, t2⟩ := Two_len h hs6 w4
    rcases w3 with ⟨rfl, _⟩ | ⟨rfl, hv, hz⟩ | ⟨rfl, hv, hv2⟩
    · exact absurd he (w4.inv0 e)
    · obtain ⟨i1, i2⟩ := w4.inv1
      have hn : ¬ V (2 * cO (sX G ((dv (gry G r)).getD k 0)) (f k) (t k) + 1) := by
        intro hv2
        obtain ⟨n, n0, n1, en⟩ := hS.size hv2
        rw [hz] at en
        exact nI_ne0 n0 n1 en.symm
      exact ⟨(show 2 * cO (sX G ((dv (gry G r)).getD k 0)) (f k) (t k) + 1 < 936 by omega), hq0 hv, fun q => absurd q hn, i1, fun q => absurd q hn, t1 _ _ rfl, fun x hx => Or.inl (i2 x hx)⟩
    · obtain ⟨i1, i2, i3, i4⟩ := w4.inv2
      refine ⟨(show 2 * cO (sX G ((dv (gry G r)).getD k 0)) (f k) (t k) + 1 < 936 by omega), hq0 hv, fun _ => hq1 hv2, i1, fun _ => ⟨i2, i3, t2 _ (by simp)⟩, t1 _ _ rfl, fun x hx => ?_⟩
      rcases i4 x hx with q | q | q
      · exact Or.inl q
      · exact Or.inr ⟨hv2, Or.inl q⟩
      · exact Or.inr ⟨hv2, Or.inr q⟩
  · intro q hq hn
    obtain ⟨_, _, kf, kt, ⟨v, p, w1, w2, w3, w4⟩, ⟨e, he⟩, _⟩ := hP q hq
    rcases w3 with ⟨rfl, _, hz⟩ | ⟨rfl, hv, hz⟩ | ⟨rfl, hv, hv2⟩
    · exact hz
    · exact hz
    · exact absurd hv2 hn
theorem p_addTrees {N : Nat} (hN : 151 ≤ N) {γ χ τ : Nat → Nat → Int32} {G : Gm} (hG : GrOK γ G) {C : Nat → List Int32} {V Q : Nat → Prop} (hS : FS τ C (ar G) V Q) {a : Nat → Int32} {r i j : Nat} (hr : r < gR G) (hu : ¬ isU G r) (hij : i < j) (hj : j ≤ 12) {f t : Nat → Nat} (hP : Pt G χ τ C V Q a r f t)
    (hspl : Spl (gry G r) (sg a i j) ((List.range (dv (gry G r)).length).map (fun q => sg a (f q) (t q)))) (hQ : ∀ t, Q t → t ≠ 2 * cO (grs G r) i j ∧ t ≠ 2 * cO (grs G r) i j + 1) {A : List Int32 → Prop} (hA : CA χ τ C V (cO (grs G r) i j) A) (hd : ∀ d, Pr G (dv (gry G r)) ((List.range (dv (gry G r)).length).map (fun q => sg a (f q) (t q))) d → ¬ A (nI r :: d)) :
    ∃ χ' τ' C' V', m_Ch_addTrees N χ γ τ (nI r) (nI i) (nI j) = some (χ', τ') ∧ FS τ' C' (ar G) V' Q ∧ CA χ' τ' C' V' (cO (grs G r) i j) (fun e => A e ∨ ∃ d, Pr G (dv (gry G r)) ((List.range (dv (gry G r)).length).map (fun q => sg a (f q) (t q))) d ∧ e = nI r :: d) ∧ Fr (cO (grs G r) i j) χ τ C V χ' τ' C' V' ∧ (∀ b, b ≠ 1 → χ' b = χ b) ∧ ∀ t, Q t → C' t = C t := by
  have h4 := dv_le4 hG.1 hr
  have hR := hG.1.2.2.1
  have hs : grs G r < 6 := by
    have h1 := (hG.1.2.2.2.2 r hr).1
    have h2 := hG.1.1
    omega
  have hc := cO_lt hs hij hj
  generalize hcc : cO (grs G r) i j = c at *
  obtain ⟨hPf, hz⟩ := hP.pf hG.1 hr hS.1
  have hne : ∀ g, g ∈ (List.range (dv (gry G r)).length).map (fun q => sg a (f q) (t q)) → g ≠ [] := by
    intro g hg
    obtain ⟨k, hk, rfl⟩ := mem_getD (d := []) hg
    simp only [List.length_map, List.length_range] at hk
    rw [range_getD _ hk]
    obtain ⟨_, _, kf, _⟩ := hP k hk
    intro e
    have := congrArg List.length e
    rw [sg_len] at this
    simp at this
    omega
  have hsum := Spl_sum hG.1 hr hu hspl hne
  rw [cat_flat, sg_len] at hsum
  simp only [List.length_map, List.length_range] at hsum
  obtain ⟨v, p, w1, w2, w3, w4⟩ := hA
  -- the draft is begun
  have hD0 : Dch τ (st2 (st2 τ 2 936 (nI r)) 3 936 (nI (dv (gry G r)).length)) := by
    refine ⟨fun b hb s hs => ?_, fun s _ => by rw [st2_aj _ _ _ _ (by decide), st2_aj _ _ _ _ (by decide)], _, h4, st2_s _ _ _ _⟩
    by_cases c3 : b = 3
    · subst c3
      rw [st2_k _ _ _ (by omega), st2_aj _ _ _ _ (by decide)]
    · rw [st2_aj _ _ _ _ c3]
      by_cases c2 : b = 2
      · subst c2
        rw [st2_k _ _ _ (by omega)]
      · rw [st2_aj _ _ _ _ c2]
  generalize hτ0 : st2 (st2 τ 2 936 (nI r)) 3 936 (nI (dv (gry G r)).length) = τ0 at *
  obtain ⟨τ1, pr, f1, f2, f3, f4, f5⟩ := p_addTrees_41 (N := N) hG hr hP (nI c) (fun s_table v6 => f_Ch_addTrees_91 N χ γ s_table (nI r) (nI c) (nI (dv (gry G r)).length) v6) (dv (gry G r)).length 0 N τ0 1 (by omega) (by omega) (by rw [List.take_zero]; exact Cnt.one []) (fun q hq => by omega)
  have hD1 : Dch τ τ1 := by
    refine ⟨fun b hb s hs => by rw [f3 b hb]; exact hD0.1 b hb s hs, fun s hs => by rw [f4 s hs]; exact hD0.2.1 s hs, ?_⟩
    rw [f3 3 (by decide)]
    exact hD0.2.2
  have d2 : τ1 2 936 = nI r := by rw [f3 2 (by decide), ← hτ0, st2_aj _ _ _ _ (by decide), st2_s]
  have d3 : τ1 3 936 = nI (dv (gry G r)).length := by rw [f3 3 (by decide), ← hτ0, st2_s]
  -- the least of all
  have hcat : (((List.range (dv (gry G r)).length).map (fun q => 2 * cO (sX G ((dv (gry G r)).getD q 0)) (f q) (t q))).map C).flatten = cat (fun q => C (2 * cO (sX G ((dv (gry G r)).getD q 0)) (f q) (t q))) (dv (gry G r)).length := map_map_flat _ _ _
  have hPr : Pr G (dv (gry G r)) ((List.range (dv (gry G r)).length).map (fun q => sg a (f q) (t q))) (cat (fun q => C (2 * cO (sX G ((dv (gry G r)).getD q 0)) (f q) (t q))) (dv (gry G r)).length) := by
    refine (Pr_cat (dv (gry G r)).length _ _ _ rfl (by simp)).mpr ⟨_, rfl, fun q hq => ?_⟩
    rw [range_getD (fun q => sg a (f q) (t q)) hq]
    exact (hPf q hq).2.2.2.1
  have hlen : (nI r :: cat (fun q => C (2 * cO (sX G ((dv (gry G r)).getD q 0)) (f q) (t q))) (dv (gry G r)).length).length ≤ 150 := by
    have := cat_len (F := fun q => C (2 * cO (sX G ((dv (gry G r)).getD q 0)) (f q) (t q))) (Y := fun q => sg a (f q) (t q)) (j := (dv (gry G r)).length) (dv (gry G r)).length (fun q hq => by
      rw [if_neg (by omega)]
      exact (hPf q hq).2.2.2.2.2.1)
    rw [if_neg (by omega)] at this
    simp only [List.length_cons]
    omega
  obtain ⟨τ2, C2, V2, p2, o1, o2, o3, o4, o5, o6, o7, o8⟩ := p_offer hN (hS.draft hD1).1 (hS.draft hD1).2.1 (hS.draft hD1).2.2 (hd := nI r) (ps := (List.range (dv (gry G r)).length).map (fun q => 2 * cO (sX G ((dv (gry G r)).getD q 0)) (f q) (t q)))
    ⟨by rw [ar_r (by omega)]; simp, by simpa using h4, d2, by rw [d3]; simp, fun q hq => by
      simp only [List.length_map, List.length_range] at hq
      rw [range_getD _ hq]
      exact ⟨f2 q hq, (hPf q hq).2.1⟩⟩ hc (w3.frame (fun s hs => ⟨Iff.rfl, rfl, hD1.1 1 (by decide) s (by omega)⟩)) (fun s hs he => by
      have := hQ s hs
      rcases he with he | he
      · exact absurd he this.1
      · exact absurd he this.2) (by
      rw [hcat]
      intro hin
      exact hd _ hPr (w4.2.1 _ hin))
  rw [hcat] at o8
  rcases o8 with ⟨_, hins⟩ | ⟨o8, _⟩
  · obtain ⟨u1, u2, u3, u4⟩ := o6
    have hT2 : Two (OF A r (fun k => C (2 * cO (sX G ((dv (gry G r)).getD k 0)) (f k) (t k))) (fun k => C (2 * cO (sX G ((dv (gry G r)).getD k 0)) (f k) (t k) + 1)) (fun k => V (2 * cO (sX G ((dv (gry G r)).getD k 0)) (f k) (t k) + 1)) (dv (gry G r)).length 0) p2 := by
      refine (hins.two w4).congr (fun e => ?_)
      constructor
      · rintro (q | q)
        · exact Or.inl q
        · exact Or.inr (Or.inl q)
      · rintro (q | q | ⟨q, q1, _⟩)
        · exact Or.inl q
        · exact Or.inr q
        · omega
    obtain ⟨τ', C', V', p', g1, g2, g3, g4, g5, g6⟩ := p_addTrees_120 hN (χ := st2 χ 1 c (nI (wplus v pr))) hG (C0 := C) hr (f := f) (t := t) (ys := fun q => sg a (f q) (t q)) (h2 := fun k => V (2 * cO (sX G ((dv (gry G r)).getD k 0)) (f k) (t k) + 1)) hc
      (fun k hk => by
        obtain ⟨k5, k6, kf, kt, _⟩ := hP k hk
        rw [st2_aj _ _ _ _ (by decide), st2_aj _ _ _ _ (by decide)]
        exact ⟨k5, k6, kf, kt⟩) hPf hQ (A := A) hd (by omega) _ _ rfl rfl (fun s_table => f_Ch_addTrees_197 N (st2 χ 1 c (nI (wplus v pr))) γ s_table) (dv (gry G r)).length 0 N τ2 C2 V2 p2 (by omega) (by omega) ⟨o2, o3, o4⟩ o5 hT2 (by rw [u2]; exact d2) (by rw [u3]; exact d3) (fun q hq => by rw [u4]; exact f2 q hq) o7
      (fun q hq hn => by
        obtain ⟨c9, cq, _⟩ := hPf q hq
        simp only at c9 cq
        have hne : 2 * cO (sX G ((dv (gry G r)).getD q 0)) (f q) (t q) + 1 ≠ 2 * c + 1 := fun e => (hQ _ cq).1 (by omega)
        rw [(u1 _ c9 (by omega) hne).2.2.1, hD1.1 1 (by decide) _ c9]
        exact hz q hq hn)
    refine ⟨st2 χ 1 c (nI (wplus v pr)), τ', C', V', ?_, g1, ⟨wplus v pr, p', st2_s _ _ _ _, ?_, g2, ?_⟩, ?_, fun b hb => st2_a _ _ _ hb, g5⟩
    · unfold m_Ch_addTrees f_Ch_addTrees_0
      rw [g_sort_r hG hr, b1_some, p_cellOf hs hij hj, b1_some, g_slots hG hr, b1_some, p_startDraft h4, b1_some, hτ0, hcc]
      refine f5.trans ?_
      unfold f_Ch_addTrees_91
      rw [p_waysAt hc, b1_some, w1, p_plus w2.le f1.le, b1_some, p_setWays hc, b1_some, o1, b1_some]
      exact g6
    · refine w2.union (f1.cons (nI r)) ?_
      rintro e h1 ⟨d, d1, rfl⟩
      exact hd d d1 h1
    · refine g3.ext ?_ ?_
      · rintro e (q | q | ⟨q, q1, q2, q3⟩)
        · exact Or.inl q
        · exact Or.inr ⟨_, hPr, q⟩
        · refine Or.inr ⟨_, (Pr_cat (dv (gry G r)).length _ _ _ rfl (by simp)).mpr ⟨_, rfl, fun z hz => ?_⟩, q3⟩
          rw [range_getD (fun q => sg a (f q) (t q)) hz]
          unfold swp
          by_cases e : z = q
          · subst e
            rw [if_pos rfl]
            exact ((hPf z hz).2.2.2.2.1 q2).1
          · rw [if_neg e]
            exact (hPf z hz).2.2.2.1
      · rintro e (q | ⟨d, q1, rfl⟩)
        · exact Or.inl (Or.inl q)
        · obtain ⟨F, rfl, F2⟩ := (Pr_cat (dv (gry G r)).length _ _ _ rfl (by simp)).mp q1
          have F3 : ∀ k, k < (dv (gry G r)).length → Sy G (sX G ((dv (gry G r)).getD k 0)) (sg a (f k) (t k)) (F k) := by
            intro k hk
            have := F2 k hk
            rw [range_getD (fun q => sg a (f q) (t q)) hk] at this
            exact this
          rcases Off_dom (A := fun k e => Sy G (sX G ((dv (gry G r)).getD k 0)) (sg a (f k) (t k)) e) (a := fun k => C (2 * cO (sX G ((dv (gry G r)).getD k 0)) (f k) (t k))) (b := fun k => C (2 * cO (sX G ((dv (gry G r)).getD k 0)) (f k) (t k) + 1)) (h2 := fun k => V (2 * cO (sX G ((dv (gry G r)).getD k 0)) (f k) (t k) + 1)) (m := (dv (gry G r)).length) (fun k hk hh => ((hPf k hk).2.2.2.2.1 hh).2.1) (fun k hk e he => (hPf k hk).2.2.2.2.2.2 e he) F3 with q | ⟨x, y, x1, y1, xy, x2, y2⟩
          · left
            rcases q with q | ⟨z, z1, z2, z3⟩
            · exact Or.inr (Or.inl (by rw [q]))
            · exact Or.inr (Or.inr ⟨z, z1, z2, by rw [z3]⟩)
          · right
            have mk : ∀ x, Off (fun k => C (2 * cO (sX G ((dv (gry G r)).getD k 0)) (f k) (t k))) (fun k => C (2 * cO (sX G ((dv (gry G r)).getD k 0)) (f k) (t k) + 1)) (fun k => V (2 * cO (sX G ((dv (gry G r)).getD k 0)) (f k) (t k) + 1)) (dv (gry G r)).length x → OF A r (fun k => C (2 * cO (sX G ((dv (gry G r)).getD k 0)) (f k) (t k))) (fun k => C (2 * cO (sX G ((dv (gry G r)).getD k 0)) (f k) (t k) + 1)) (fun k => V (2 * cO (sX G ((dv (gry G r)).getD k 0)) (f k) (t k) + 1)) (dv (gry G r)).length (dv (gry G r)).length (nI r :: x) := by
              rintro x (q | ⟨z, z1, z2, z3⟩)
              · exact Or.inr (Or.inl (by rw [q]))
              · exact Or.inr (Or.inr ⟨z, z1, z2, by rw [z3]⟩)
            refine ⟨_, _, mk x x1, mk y y1, fun e => xy (by injection e), cl_cons.mpr x2, cl_cons.mpr y2⟩
    · refine Fr.trans (χ' := χ) (Fr.trans (χ' := χ) ⟨fun _ _ => rfl, fun s s1 s2 s3 => ⟨Iff.rfl, rfl, hD1.sam s1⟩⟩ (Ofr.fr ⟨u1, u2, u3, u4⟩ χ)) ⟨fun k hk => st2_k _ _ _ hk, g4.2⟩
  · omega
