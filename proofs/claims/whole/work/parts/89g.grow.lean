/-! grow -/
theorem Vld.ok {G : Gm} (h : GOK G) : ∀ {cs : List Int32}, Vld G cs → ∀ y, y ∈ yv G cs → ∀ z, z ∈ y → okSym (gV G) z
  | [], _, y, hy => by simp [yv] at hy
  | c :: cs, k, y, hy => by
    have hR := h.2.2.1
    have hV := h.2.1
    obtain ⟨k1, k2, k3⟩ := k
    have ih := Vld.ok h k1
    rcases k2 with ⟨r, hr, rfl⟩ | ⟨v, hv, rfl⟩
    · rw [yv_r (by omega)] at hy
      rw [sl_r (by omega), List.length_map] at k3
      rcases List.mem_cons.mp hy with rfl | hy
      · intro z hz
        obtain ⟨x, hx, hz⟩ := List.mem_flatMap.mp hz
        unfold sub at hz
        by_cases c : x < 0
        · rw [if_pos c] at hz
          exact ih _ (asg_take _ _ x (dv_mem.mpr ⟨hx, c⟩) k3).1 z hz
        · rw [if_neg c] at hz
          have : z = x := by simpa using hz
          rw [this]
          exact (h.2.2.2.2 r hr).2.2.2.1 x hx
      · exact ih y (List.mem_of_mem_drop hy)
    · rw [yv_n (vS_neg (by omega))] at hy
      rcases List.mem_cons.mp hy with rfl | hy
      · intro z hz
        have : z = vS v := by simpa using hz
        rw [this]
        exact Or.inr ⟨v, hv, rfl⟩
      · exact ih y hy
theorem c_grow {N : Nat} (hN : NB ≤ N) {x γ χ τ ω g σ ρ tp μ : Nat → Nat → Int32} (h : RlR x γ χ τ ρ tp μ) (a : Int32) : ∃ r x' ω' g' σ' ρ' μ', m_Rt_grow N 12 12 12 200 x γ ω g σ ρ tp a = some (r, x', ω', g', σ', ρ') ∧ m_Md_grow N μ a = some (r, μ') ∧ RlR x' γ χ τ ρ' tp μ' := by
  have hNB : 70000 ≤ NB := by unfold NB; omega
  have hth := h.th
  obtain ⟨G, w, t, h1, h2, h3, h4, h5, h6, h7, h8⟩ := h
  have hS := h1.1.1
  have hS2 : st2 μ 0 0 0 0 1 = nI (gS G) := by rw [st2_k _ _ _ (by decide)]; exact h8.1.2.1
  obtain ⟨X, hX⟩ : ∃ X, X = m_Rt_grow N 12 12 12 200 x γ ω g σ ρ tp a := ⟨_, rfl⟩
  rw [← hX]
  unfold m_Rt_grow f_Rt_grow_0 at hX
  rcases p_sortArg h1.2.1 hS2 hS a with ⟨s, hs, rfl, e1, e2⟩ | ⟨e1, e2⟩
  · rw [e1, b1_some, if_neg (by decide)] at hX
    have fin : ∀ (μ' : Nat → Nat → Int32) (w' : List Int32) (pl : Int32) (ρ' : Nat → Nat → Int32), Fg μ μ' → μ' 0 13 = pl → MdW μ' w' → (μ' 0 14 ≠ 0 → Kn μ' G w'.length) → SyL 12 ρ' w' → (∀ z, z ∈ w' → okSym (gV G) z) → RlR (st2 x 0 8 pl) γ χ τ ρ' tp μ' := by
      intro μ' w' pl ρ' f1 f2 f3 f4 f5 f6
      refine ⟨G, w', t, h1, h2.same (f1.2 5 (by decide) (by decide) (by decide) (by decide) (by decide)) (f1.1 2 (by decide) (by decide) (by decide)) (f1.1 3 (by decide) (by decide) (by decide)) (f1.1 4 (by decide) (by decide) (by decide)), f5, f6, h5, by rw [st2_s, f2], h7, h8.1.fq (fun z hz => f1.2 z (by omega) (by omega) (by omega) (by omega) (by omega)) (fun b hb => f1.1 b (by omega) (by omega) (by omega)), f3, h8.2.2.1.same (f1.2 12 (by decide) (by decide) (by decide) (by decide) (by decide)) (f1.1 6 (by decide) (by decide) (by decide)), f4⟩
    have stay : ∀ (μ' : Nat → Nat → Int32) (pl : Int32), Fg μ μ' → μ' 5 = μ 5 → μ' 0 10 = μ 0 10 → μ' 0 14 = μ 0 14 → μ' 0 13 = pl → RlR (st2 x 0 8 pl) γ χ τ ρ tp μ' := by
      intro μ' pl f1 f5 f10 f14 f13
      exact fin μ' w pl ρ f1 f13 (h8.2.1.same f10 f5) (fun q => (h8.2.2.2 (by rw [f14] at q; exact q)).same f5 (f1.1 7 (by decide) (by decide) (by decide)) (f1.1 8 (by decide) (by decide) (by decide)) (f1.1 9 (by decide) (by decide) (by decide))) h3 h4
    rcases p_judge (N := N) (ω := ω) (g := g) (σ := σ) (by omega) (Nat.le_refl 200) h1 h5 (show s < 6 by omega) with ⟨v, pl, ω', a1, a2, a3, a4⟩ | ⟨pl, y, ω', g', σ', a1, a2, a3, a4⟩
    · rcases q_grow (N := N) (by omega) h8.1 h8.2.2.1 hs with ⟨v', pl', μ', b1, b2, b3, b4, b5, b6, b7, b8⟩ | ⟨pl', y', μ', b1, _⟩
      · obtain ⟨ev, ep⟩ := rdr_uniq a1 b1
        subst ev
        subst ep
        have hv4 := (rdr_le a1).1
        rw [a4, b4_some, nm_d, if_neg (nI_ne0 (by omega) (by omega)), a3] at hX
        exact ⟨_, _, _, _, _, _, _, hX, b8, stay μ' _ b4 b5 b6 b7 b3⟩
      · exact absurd (rdr_uniq a1 b1).1 a2
    · rcases q_grow (N := N) (by omega) h8.1 h8.2.2.1 hs with ⟨v', pl', μ', b1, b2, _⟩ | ⟨pl', y', μ', b1, b2, b3, b4, b5⟩
      · exact absurd (rdr_uniq a1 b1).1.symm b2
      · have ey : y = y' := by
          rw [a2] at b2
          simpa using b2
        subst ey
        rcases a4 with ⟨l1, l2, l3⟩ | ⟨l1, l3⟩
        · rcases b5 with ⟨m1, m2, m3, m4⟩ | ⟨m1, _⟩
          · obtain ⟨ρ', c1, c2⟩ := p_copyOf (N := N) (ρ := ρ) (by omega) l2
            rw [l3, b4_some, nm_d, if_pos rfl, a3, c2, b1_some] at hX
            obtain ⟨w1, w2⟩ := rdr_vld h1.1 a1
            exact ⟨_, _, _, _, _, _, _, hX, m4, fin μ' y (-1) ρ' b4 b3 m2 (fun q => absurd m3 q) c1 (Vld.ok h1.1 w1 y (by rw [a2]; simp))⟩
          · omega
        · rcases b5 with ⟨m1, _⟩ | ⟨m1, m2, m3, m4, m5⟩
          · omega
          · rw [l3, b4_some, nm_d, if_neg (by decide), a3] at hX
            exact ⟨_, _, _, _, _, _, _, hX, m5, stay μ' _ b4 m2 m3 m4 b3⟩
  · rw [e1, b1_some, if_pos rfl] at hX
    refine ⟨_, _, _, _, _, _, st2 μ 0 0 0, hX, ?_, hth⟩
    unfold m_Md_grow f_Md_grow_0
    rw [nm_d, e2, b1_some, if_pos rfl]
