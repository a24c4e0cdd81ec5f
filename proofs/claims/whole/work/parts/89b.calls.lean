/-- begin -/
theorem c_begin {x γ χ τ ρ tp μ : Nat → Nat → Int32} (h : RlR x γ χ τ ρ tp μ) (a : Int32) : ∃ r γ' μ', m_Rt_begin x γ a = some (r, γ') ∧ m_Md_begin μ a = some (r, μ') ∧ RlR x γ' χ τ ρ tp μ' := by
  have hth := h.th
  obtain ⟨G, w, t, h1, h2, h3, h4, h5, h6, h7, h8⟩ := h
  have hS := h1.1.1
  have hR := h1.1.2.2.1
  have hS2 : st2 μ 0 0 0 0 1 = nI (gS G) := by rw [st2_k _ _ _ (by decide)]; exact h8.1.2.1
  rcases p_sortArg h1.2.1 hS2 hS a with ⟨j, hj, rfl, e1, e2⟩ | ⟨e1, e2⟩
  · by_cases ok : gR G < 30 ∧ γ 0 3 = 0
    · have hm : μ 0 5 = 0 := by
        rcases h2 with ⟨_, b⟩ | ⟨b, _⟩
        · exact b
        · rw [ok.2] at b
          exact absurd b (by decide)
      rw [p_Rt_begin_y x e1 h1.2.2.2.1 ok.1 ok.2, p_Md_begin_y e2 h8.1.2.2.2.1 ok.1 hm]
      have ga : ∀ c, c ≠ 0 → c ≠ 2 → c ≠ 3 → c ≠ 6 → st2 (st2 (st2 (st2 (st2 γ 0 3 1) 0 4 0) 2 (gR G) (nI j)) 3 (gR G) 0) 6 (gR G) 0 c = γ c := fun c c0 c2 c3 c6 => by rw [st2_a _ _ _ c6, st2_a _ _ _ c3, st2_a _ _ _ c2, st2_a _ _ _ c0, st2_a _ _ _ c0]
      have gk : ∀ k, k ≠ 3 → k ≠ 4 → st2 (st2 (st2 (st2 (st2 γ 0 3 1) 0 4 0) 2 (gR G) (nI j)) 3 (gR G) 0) 6 (gR G) 0 0 k = γ 0 k := fun k k3 k4 => by rw [st2_aj _ _ _ _ (by decide), st2_aj _ _ _ _ (by decide), st2_aj _ _ _ _ (by decide), st2_k _ _ _ k4, st2_k _ _ _ k3]
      have g2 : ∀ r, r ≠ gR G → st2 (st2 (st2 (st2 (st2 γ 0 3 1) 0 4 0) 2 (gR G) (nI j)) 3 (gR G) 0) 6 (gR G) 0 2 r = γ 2 r := fun r hr => by rw [st2_aj _ _ _ _ (by decide), st2_aj _ _ _ _ (by decide), st2_k _ _ _ hr, st2_aj _ _ _ _ (by decide), st2_aj _ _ _ _ (by decide)]
      have g3 : ∀ r, r ≠ gR G → st2 (st2 (st2 (st2 (st2 γ 0 3 1) 0 4 0) 2 (gR G) (nI j)) 3 (gR G) 0) 6 (gR G) 0 3 r = γ 3 r := fun r hr => by rw [st2_aj _ _ _ _ (by decide), st2_k _ _ _ hr, st2_aj _ _ _ _ (by decide), st2_aj _ _ _ _ (by decide), st2_aj _ _ _ _ (by decide)]
      have g6 : ∀ r, r ≠ gR G → st2 (st2 (st2 (st2 (st2 γ 0 3 1) 0 4 0) 2 (gR G) (nI j)) 3 (gR G) 0) 6 (gR G) 0 6 r = γ 6 r := fun r hr => by rw [st2_k _ _ _ hr, st2_aj _ _ _ _ (by decide), st2_aj _ _ _ _ (by decide), st2_aj _ _ _ _ (by decide), st2_aj _ _ _ _ (by decide)]
      have ma : ∀ b, b ≠ 0 → b ≠ 2 → b ≠ 3 → st2 (st2 (st2 (st2 μ 0 0 0) 0 5 1) 2 30 (nI j)) 3 30 0 b = μ b := fun b b0 b2 b3 => by rw [st2_a _ _ _ b3, st2_a _ _ _ b2, st2_a _ _ _ b0, st2_a _ _ _ b0]
      have mk : ∀ k, k ≠ 0 → k ≠ 5 → st2 (st2 (st2 (st2 μ 0 0 0) 0 5 1) 2 30 (nI j)) 3 30 0 0 k = μ 0 k := fun k k0 k5 => by rw [st2_aj _ _ _ _ (by decide), st2_aj _ _ _ _ (by decide), st2_k _ _ _ k5, st2_k _ _ _ k0]
      have m2 : ∀ r, r ≠ 30 → st2 (st2 (st2 (st2 μ 0 0 0) 0 5 1) 2 30 (nI j)) 3 30 0 2 r = μ 2 r := fun r hr => by rw [st2_aj _ _ _ _ (by decide), st2_k _ _ _ hr, st2_aj _ _ _ _ (by decide), st2_aj _ _ _ _ (by decide)]
      have m3 : ∀ r, r ≠ 30 → st2 (st2 (st2 (st2 μ 0 0 0) 0 5 1) 2 30 (nI j)) 3 30 0 3 r = μ 3 r := fun r hr => by rw [st2_k _ _ _ hr, st2_aj _ _ _ _ (by decide), st2_aj _ _ _ _ (by decide), st2_aj _ _ _ _ (by decide)]
      refine ⟨_, _, _, rfl, rfl, G, w, t, ?_, ?_, h3, h4, h5, by rw [mk 13 (by decide) (by decide)]; exact h6, h7, ?_⟩
      · obtain ⟨k1, k2, k3, k4, k5, k6⟩ := h1
        refine ⟨k1, by rw [gk 0 (by decide) (by decide)]; exact k2, by rw [gk 1 (by decide) (by decide)]; exact k3, by rw [gk 2 (by decide) (by decide)]; exact k4, fun v hv => by rw [ga 1 (by decide) (by decide) (by decide) (by decide)]; exact k5 v hv, fun r hr => ⟨by rw [g2 r (by omega)]; exact (k6 r hr).1, ?_⟩⟩
        obtain ⟨q1, q2, q3, q4⟩ := (k6 r hr).2
        exact ⟨by rw [g3 r (by omega)]; exact q1, fun k hk => by rw [ga 4 (by decide) (by decide) (by decide) (by decide), ga 5 (by decide) (by decide) (by decide) (by decide)]; exact q2 k hk, by rw [g6 r (by omega)]; exact q3, fun k hk => by rw [ga 7 (by decide) (by decide) (by decide) (by decide)]; exact q4 k hk⟩
      · refine Or.inr ⟨?_, ?_, ok.1, j, [], hj, by simp, by simp, by simp [vl], ?_, ?_, ⟨?_, by simp, ?_, ?_⟩, ?_, ⟨by decide, ?_, by simp, by simp⟩⟩
        · rw [st2_aj _ _ _ _ (by decide), st2_aj _ _ _ _ (by decide), st2_aj _ _ _ _ (by decide), st2_k _ _ _ (by decide), st2_s]
        · rw [st2_aj _ _ _ _ (by decide), st2_aj _ _ _ _ (by decide), st2_s]
        · rw [st2_aj _ _ _ _ (by decide), st2_aj _ _ _ _ (by decide), st2_aj _ _ _ _ (by decide), st2_s]
          rfl
        · rw [st2_aj _ _ _ _ (by decide), st2_aj _ _ _ _ (by decide), st2_s]
        · rw [st2_aj _ _ _ _ (by decide), st2_s]
          rfl
        · rw [st2_s]
          rfl
        · intro k hk
          simp [dv, dvs] at hk
        · rw [st2_aj _ _ _ _ (by decide), st2_s]
        · rw [st2_s]
          rfl
      · obtain ⟨⟨k1, k2, k3, k4, k5, k6⟩, n2, n3, n4⟩ := h8
        refine ⟨⟨k1, by rw [mk 1 (by decide) (by decide)]; exact k2, by rw [mk 2 (by decide) (by decide)]; exact k3, by rw [mk 4 (by decide) (by decide)]; exact k4, fun v hv => by rw [ma 1 (by decide) (by decide) (by decide)]; exact k5 v hv, fun r hr => ⟨by rw [m2 r (by omega)]; exact (k6 r hr).1, ?_⟩⟩, n2.same (mk 10 (by decide) (by decide)) (ma 5 (by decide) (by decide) (by decide)), n3.same (mk 12 (by decide) (by decide)) (ma 6 (by decide) (by decide) (by decide)), fun q => (n4 (by rw [mk 14 (by decide) (by decide)] at q; exact q)).same (ma 5 (by decide) (by decide) (by decide)) (ma 7 (by decide) (by decide) (by decide)) (ma 8 (by decide) (by decide) (by decide)) (ma 9 (by decide) (by decide) (by decide))⟩
        obtain ⟨q1, q2, q3, q4⟩ := (k6 r hr).2
        exact ⟨q1, by rw [m3 r (by omega)]; exact q2, q3, fun k hk => by rw [ma 4 (by decide) (by decide) (by decide)]; exact q4 k hk⟩
    · have c1 : gR G = 30 ∨ ¬ γ 0 3 = 0 := by
        by_cases q : gR G < 30
        · exact Or.inr (fun e => ok ⟨q, e⟩)
        · exact Or.inl (by omega)
      have c2 : gR G = 30 ∨ ¬ μ 0 5 = 0 := by
        rcases c1 with c | c
        · exact Or.inl c
        · right
          rcases h2 with ⟨b, _⟩ | ⟨_, b, _⟩
          · exact absurd b c
          · rw [b]
            decide
      rw [p_Rt_begin_n x h1.2.2.2.1 hR (Or.inr ⟨e1, c1⟩), p_Md_begin_n h8.1.2.2.2.1 hR (Or.inr ⟨e2, c2⟩)]
      exact ⟨_, _, _, rfl, rfl, hth⟩
  · rw [p_Rt_begin_n x h1.2.2.2.1 hR (Or.inl e1), p_Md_begin_n h8.1.2.2.2.1 hR (Or.inl e2)]
    exact ⟨_, _, _, rfl, rfl, hth⟩
/-- close -/
theorem c_close {N : Nat} (hN : 9 ≤ N) {x γ χ τ ρ tp μ : Nat → Nat → Int32} (h : RlR x γ χ τ ρ tp μ) : ∃ r γ' μ', m_Rt_close x γ = some (r, γ') ∧ m_Md_close N μ = some (r, μ') ∧ RlR x γ' χ τ ρ tp μ' := by
  have hth := h.th
  obtain ⟨G, w, t, h1, h2, h3, h4, h5, h6, h7, h8⟩ := h
  have hR := h1.1.2.2.1
  rcases h2 with ⟨b1, b2⟩ | ⟨b1, b2, b3, sb, l, q1, q2, q3, q4, q5, q6, q7, q8, q9⟩
  · rw [p_Rt_close_n x h1.2.2.2.1 (Or.inl b1), p_Md_close_n (Or.inl b2)]
    exact ⟨_, _, _, rfl, rfl, hth⟩
  · by_cases z : l = []
    · have e1 : γ 3 (gR G) = 0 := by rw [q7.1, z]; rfl
      have e2 : μ 3 30 = 0 := by rw [q9.2.1, z]; rfl
      rw [p_Rt_close_n x h1.2.2.2.1 (Or.inr ⟨b3, e1⟩), p_Md_close_n (Or.inr e2)]
      exact ⟨_, _, _, rfl, rfl, hth⟩
    · have hl : 1 ≤ l.length := List.length_pos_iff.mpr z
      rw [p_Rt_close_y x h1.2.2.2.1 b3 (by rw [b1]; decide) q7.1 hl q2, p_Md_close_y hN h8.1.2.2.2.1 b3 (by rw [b2]; decide) q9.2.1 hl q2]
      obtain ⟨G', eG⟩ : ∃ G' : Gm, G' = ((gS G, gV G, gR G + 1), gvs G, (fun r => if r = gR G then sb else grs G r), (fun r => if r = gR G then l else gry G r)) := ⟨_, rfl⟩
      have eS : gS G' = gS G := by rw [eG]; rfl
      have eV : gV G' = gV G := by rw [eG]; rfl
      have eR : gR G' = gR G + 1 := by rw [eG]; rfl
      have evs : gvs G' = gvs G := by rw [eG]; rfl
      have ers : ∀ r, grs G' r = if r = gR G then sb else grs G r := fun r => by rw [eG]; rfl
      have ery : ∀ r, gry G' r = if r = gR G then l else gry G r := fun r => by rw [eG]; rfl
      have hsx : ∀ z, sX G' z = sX G z := fun z => by unfold sX; rw [evs]
      have hok : GOK G' := by
        obtain ⟨g1, g2, g3, g4, g5⟩ := h1.1
        refine ⟨by omega, by omega, by omega, fun v hv => by rw [evs, eS]; exact g4 v (by omega), fun r hr => ?_⟩
        rw [ers, ery, eS, eV]
        by_cases e : r = gR G
        · rw [if_pos e, if_pos e]
          exact ⟨q1, z, q2, q3, q4⟩
        · rw [if_neg e, if_neg e]
          exact g5 r (by omega)
      have ga : ∀ c, c ≠ 0 → st2 (st2 γ 0 3 0) 0 2 (nI (gR G + 1)) c = γ c := fun c c0 => by rw [st2_a _ _ _ c0, st2_a _ _ _ c0]
      have gk : ∀ k, k ≠ 2 → k ≠ 3 → st2 (st2 γ 0 3 0) 0 2 (nI (gR G + 1)) 0 k = γ 0 k := fun k k2 k3 => by rw [st2_k _ _ _ k2, st2_k _ _ _ k3]
      have ma : ∀ b, b ≠ 0 → b ≠ 2 → b ≠ 3 → b ≠ 4 → mClosed μ (gR G) b = μ b := fun b b0 b2 b3 b4 => by
        unfold mClosed
        rw [st2_a _ _ _ b0, st2_a _ _ _ b0, mcl_o _ _ b4, st2_a _ _ _ b3, st2_a _ _ _ b2, st2_a _ _ _ b0, st2_a _ _ _ b0]
      have mk : ∀ k, k ≠ 0 → k ≠ 4 → k ≠ 5 → k ≠ 14 → mClosed μ (gR G) 0 k = μ 0 k := fun k k0 k4 k5 k14 => by
        unfold mClosed
        rw [st2_k _ _ _ k14, st2_k _ _ _ k4, mcl_o _ _ (by decide), st2_aj _ _ _ _ (by decide), st2_aj _ _ _ _ (by decide), st2_k _ _ _ k5, st2_k _ _ _ k0]
      have m2 : ∀ r, mClosed μ (gR G) 2 r = if r = gR G then μ 2 30 else μ 2 r := fun r => by
        unfold mClosed
        rw [st2_aj _ _ _ _ (by decide), st2_aj _ _ _ _ (by decide), mcl_o _ _ (by decide), st2_aj _ _ _ _ (by decide)]
        by_cases e : r = gR G
        · rw [if_pos e, e, st2_s]
        · rw [if_neg e, st2_k _ _ _ e, st2_aj _ _ _ _ (by decide), st2_aj _ _ _ _ (by decide)]
      have m3 : ∀ r, mClosed μ (gR G) 3 r = if r = gR G then μ 3 30 else μ 3 r := fun r => by
        unfold mClosed
        rw [st2_aj _ _ _ _ (by decide), st2_aj _ _ _ _ (by decide), mcl_o _ _ (by decide)]
        by_cases e : r = gR G
        · rw [if_pos e, e, st2_s]
        · rw [if_neg e, st2_k _ _ _ e, st2_aj _ _ _ _ (by decide), st2_aj _ _ _ _ (by decide), st2_aj _ _ _ _ (by decide)]
      have m4 : ∀ k, mClosed μ (gR G) 4 k = if 8 * gR G ≤ k ∧ k < 8 * gR G + 8 then μ 4 (240 + (k - 8 * gR G)) else μ 4 k := fun k => by
        unfold mClosed
        rw [st2_aj _ _ _ _ (by decide), st2_aj _ _ _ _ (by decide), mcl_4 _ b3 8 (Nat.le_refl _)]
        rw [st2_aj _ _ _ _ (by decide), st2_aj _ _ _ _ (by decide), st2_aj _ _ _ _ (by decide), st2_aj _ _ _ _ (by decide), st2_aj _ _ _ _ (by decide), st2_aj _ _ _ _ (by decide), st2_aj _ _ _ _ (by decide), st2_aj _ _ _ _ (by decide)]
      refine ⟨_, _, _, rfl, rfl, G', w, t, ?_, ?_, h3, fun z hz => by rw [eV]; exact h4 z hz, h5, by rw [mk 13 (by decide) (by decide) (by decide) (by decide)]; exact h6, h7.extR eR (fun r hr => ⟨by rw [ers, if_neg (by omega)], by rw [ery, if_neg (by omega)]⟩) evs, ?_⟩
      · obtain ⟨_, k2, k3, k4, k5, k6⟩ := h1
        refine ⟨hok, by rw [gk 0 (by decide) (by decide), eS]; exact k2, by rw [gk 1 (by decide) (by decide), eV]; exact k3, by rw [st2_s, eR], fun v hv => by rw [ga 1 (by decide), evs]; exact k5 v (by omega), fun r hr => ?_⟩
        rw [ers, ery, ga 2 (by decide)]
        by_cases e : r = gR G
        · rw [if_pos e, if_pos e, e]
          exact ⟨q6, (q7.same (fun c c3 c8 => ga c (by omega))).ext (fun z _ => hsx z)⟩
        · rw [if_neg e, if_neg e]
          have hr' : r < gR G := by omega
          exact ⟨(k6 r hr').1, ((k6 r hr').2.same (fun c c3 c8 => ga c (by omega))).ext (fun z _ => hsx z)⟩
      · refine Or.inl ⟨by rw [st2_k _ _ _ (by decide), st2_s], ?_⟩
        unfold mClosed
        rw [st2_k _ _ _ (by decide), st2_k _ _ _ (by decide), mcl_o _ _ (by decide), st2_aj _ _ _ _ (by decide), st2_aj _ _ _ _ (by decide), st2_s]
      · obtain ⟨⟨_, k2, k3, k4, k5, k6⟩, n2, n3, n4⟩ := h8
        refine ⟨⟨hok, by rw [mk 1 (by decide) (by decide) (by decide) (by decide), eS]; exact k2, by rw [mk 2 (by decide) (by decide) (by decide) (by decide), eV]; exact k3, ?_, fun v hv => by rw [ma 1 (by decide) (by decide) (by decide) (by decide), evs]; exact k5 v (by omega), fun r hr => ?_⟩, n2.same (mk 10 (by decide) (by decide) (by decide) (by decide)) (ma 5 (by decide) (by decide) (by decide) (by decide)), n3.same (mk 12 (by decide) (by decide) (by decide) (by decide)) (ma 6 (by decide) (by decide) (by decide) (by decide)), fun q => absurd (st2_s _ _ _ _) q⟩
        · unfold mClosed
          rw [st2_k _ _ _ (by decide), st2_s, eR]
        · rw [ers, ery, m2]
          by_cases e : r = gR G
          · rw [if_pos e, if_pos e, if_pos e, e]
            refine ⟨q8, by omega, by rw [m3, if_pos rfl]; exact q9.2.1, q2, fun k hk => ?_⟩
            rw [m4, if_pos (by omega), show 240 + (8 * gR G + k - 8 * gR G) = 8 * 30 + k by omega]
            exact q9.2.2.2 k hk
          · rw [if_neg e, if_neg e, if_neg e]
            have hr' : r < gR G := by omega
            obtain ⟨z1, z2, z3, z4⟩ := (k6 r hr').2
            refine ⟨(k6 r hr').1, z1, by rw [m3, if_neg e]; exact z2, z3, fun k hk => ?_⟩
            rw [m4, if_neg (by omega)]
            exact z4 k hk
/-- token -/
theorem c_token {x γ χ τ ρ tp μ : Nat → Nat → Int32} (h : RlR x γ χ τ ρ tp μ) (a : Int32) : ∃ r ρ' μ', m_Rt_token 12 x γ ρ a = some (r, ρ') ∧ m_Md_token μ a = some (r, μ') ∧ RlR x γ χ τ ρ' tp μ' := by
  have hth := h.th
  obtain ⟨G, w, t, h1, h2, h3, h4, h5, h6, h7, h8⟩ := h
  rcases p_Rt_token x h1.2.2.1 h8.1.2.2.1 h1.1.2.1 h3.1 h8.2.1.1 h3.2.1 a with ⟨ha, hl, e1, e2⟩ | ⟨e1, e2⟩
  · rw [e1, e2]
    have ma : ∀ b, b ≠ 0 → b ≠ 5 → st2 (st2 (st2 (st2 μ 0 0 0) 5 w.length a) 0 10 (nI (w.length + 1))) 0 14 0 b = μ b := fun b b0 b5 => by rw [st2_a _ _ _ b0, st2_a _ _ _ b0, st2_a _ _ _ b5, st2_a _ _ _ b0]
    have mk : ∀ k, k ≠ 0 → k ≠ 10 → k ≠ 14 → st2 (st2 (st2 (st2 μ 0 0 0) 5 w.length a) 0 10 (nI (w.length + 1))) 0 14 0 0 k = μ 0 k := fun k k0 k10 k14 => by rw [st2_k _ _ _ k14, st2_k _ _ _ k10, st2_aj _ _ _ _ (by decide), st2_k _ _ _ k0]
    refine ⟨_, _, _, rfl, rfl, G, w ++ [a], t, h1, h2.same (mk 5 (by decide) (by decide) (by decide)) (ma 2 (by decide) (by decide)) (ma 3 (by decide) (by decide)) (ma 4 (by decide) (by decide)), h3.snoc hl a, ?_, h5, by rw [mk 13 (by decide) (by decide) (by decide)]; exact h6, h7, ?_⟩
    · intro z hz
      rcases List.mem_append.mp hz with hz | hz
      · exact h4 z hz
      · have : z = a := by simpa using hz
        rw [this]
        exact ha
    · obtain ⟨k1, n2, n3, n4⟩ := h8
      refine ⟨k1.same ⟨mk 1 (by decide) (by decide) (by decide), mk 2 (by decide) (by decide) (by decide), mk 4 (by decide) (by decide) (by decide)⟩ (ma 1 (by decide) (by decide)) (ma 2 (by decide) (by decide)) (ma 3 (by decide) (by decide)) (ma 4 (by decide) (by decide)), ⟨?_, by simp; omega, fun k hk => ?_⟩, n3.same (mk 12 (by decide) (by decide) (by decide)) (ma 6 (by decide) (by decide)), fun q => absurd (st2_s _ _ _ _) q⟩
      · rw [st2_k _ _ _ (by decide), st2_s, List.length_append, List.length_singleton]
      · rw [List.length_append, List.length_singleton] at hk
        rw [st2_a _ _ _ (by decide), st2_a _ _ _ (by decide)]
        by_cases e : k = w.length
        · rw [e, st2_s, List.getD_eq_getElem?_getD, List.getElem?_append_right (Nat.le_refl _), Nat.sub_self]
          rfl
        · rw [st2_k _ _ _ e, st2_a _ _ _ (by decide), n2.2.2 k (by omega), List.getD_eq_getElem?_getD, List.getD_eq_getElem?_getD, List.getElem?_append_left (by omega)]
  · exact ⟨_, _, _, e1, e2, hth⟩
/-- drop -/
theorem c_drop {x γ χ τ ρ tp μ : Nat → Nat → Int32} (h : RlR x γ χ τ ρ tp μ) : ∃ r ρ' μ', m_Rt_drop 12 x ρ = some (r, ρ') ∧ m_Md_drop μ = some (r, μ') ∧ RlR x γ χ τ ρ' tp μ' := by
  obtain ⟨G, w, t, h1, h2, h3, h4, h5, h6, h7, h8⟩ := h
  rw [p_Rt_drop, p_Md_drop, h3.1, h8.2.1.1]
  have ma : ∀ b, b ≠ 0 → st2 (st2 (st2 μ 0 0 0) 0 10 0) 0 14 0 b = μ b := fun b b0 => by rw [st2_a _ _ _ b0, st2_a _ _ _ b0, st2_a _ _ _ b0]
  have mk : ∀ k, k ≠ 0 → k ≠ 10 → k ≠ 14 → st2 (st2 (st2 μ 0 0 0) 0 10 0) 0 14 0 0 k = μ 0 k := fun k k0 k10 k14 => by rw [st2_k _ _ _ k14, st2_k _ _ _ k10, st2_k _ _ _ k0]
  obtain ⟨k1, n2, n3, n4⟩ := h8
  exact ⟨_, _, _, rfl, rfl, G, [], t, h1, h2.same (mk 5 (by decide) (by decide) (by decide)) (ma 2 (by decide)) (ma 3 (by decide)) (ma 4 (by decide)), SyL.nil 12 ρ, by simp, h5, by rw [mk 13 (by decide) (by decide) (by decide)]; exact h6, h7, k1.same ⟨mk 1 (by decide) (by decide) (by decide), mk 2 (by decide) (by decide) (by decide), mk 4 (by decide) (by decide) (by decide)⟩ (ma 1 (by decide)) (ma 2 (by decide)) (ma 3 (by decide)) (ma 4 (by decide)), ⟨by rw [st2_k _ _ _ (by decide), st2_s]; rfl, by simp, fun k hk => by simp at hk⟩, n3.same (mk 12 (by decide) (by decide) (by decide)) (ma 6 (by decide)), fun q => absurd (st2_s _ _ _ _) q⟩
/-- type -/
theorem c_type {x γ χ τ ρ tp μ : Nat → Nat → Int32} (h : RlR x γ χ τ ρ tp μ) (a : Int32) : ∃ r tp' μ', m_Rt_type 200 x tp a = some (r, tp') ∧ m_Md_type μ a = some (r, μ') ∧ RlR x γ χ τ ρ tp' μ' := by
  have hth := h.th
  obtain ⟨G, w, t, h1, h2, h3, h4, h5, h6, h7, h8⟩ := h
  rw [p_Rt_type x h5.1 h5.2.1 a, p_Md_type h8.2.2.1.1 h5.2.1 a]
  by_cases c : t.length < 200
  · rw [if_pos c, if_pos c]
    have ma : ∀ b, b ≠ 0 → b ≠ 6 → st2 (st2 (st2 μ 0 0 0) 6 t.length a) 0 12 (nI (t.length + 1)) b = μ b := fun b b0 b6 => by rw [st2_a _ _ _ b0, st2_a _ _ _ b6, st2_a _ _ _ b0]
    have mk : ∀ k, k ≠ 0 → k ≠ 12 → st2 (st2 (st2 μ 0 0 0) 6 t.length a) 0 12 (nI (t.length + 1)) 0 k = μ 0 k := fun k k0 k12 => by rw [st2_k _ _ _ k12, st2_aj _ _ _ _ (by decide), st2_k _ _ _ k0]
    obtain ⟨k1, n2, n3, n4⟩ := h8
    refine ⟨_, _, _, rfl, rfl, G, w, t ++ [a], h1, h2.same (mk 5 (by decide) (by decide)) (ma 2 (by decide) (by decide)) (ma 3 (by decide) (by decide)) (ma 4 (by decide) (by decide)), h3, h4, h5.snoc c a, by rw [mk 13 (by decide) (by decide)]; exact h6, h7, k1.same ⟨mk 1 (by decide) (by decide), mk 2 (by decide) (by decide), mk 4 (by decide) (by decide)⟩ (ma 1 (by decide) (by decide)) (ma 2 (by decide) (by decide)) (ma 3 (by decide) (by decide)) (ma 4 (by decide) (by decide)), n2.same (mk 10 (by decide) (by decide)) (ma 5 (by decide) (by decide)), ⟨?_, by simp; omega, fun k hk => ?_⟩, fun q => (n4 (by rw [mk 14 (by decide) (by decide)] at q; exact q)).same (ma 5 (by decide) (by decide)) (ma 7 (by decide) (by decide)) (ma 8 (by decide) (by decide)) (ma 9 (by decide) (by decide))⟩
    · rw [st2_s, List.length_append, List.length_singleton]
    · rw [List.length_append, List.length_singleton] at hk
      rw [st2_a _ _ _ (by decide)]
      by_cases e : k = t.length
      · rw [e, st2_s, List.getD_eq_getElem?_getD, List.getElem?_append_right (Nat.le_refl _), Nat.sub_self]
        rfl
      · rw [st2_k _ _ _ e, st2_a _ _ _ (by decide), n3.2.2 k (by omega), List.getD_eq_getElem?_getD, List.getD_eq_getElem?_getD, List.getElem?_append_left (by omega)]
  · rw [if_neg c, if_neg c]
    exact ⟨_, _, _, rfl, rfl, hth⟩
/-- clear -/
theorem c_clear {x γ χ τ ρ tp μ : Nat → Nat → Int32} (h : RlR x γ χ τ ρ tp μ) : ∃ r tp' μ', m_Rt_clear 200 x tp = some (r, tp') ∧ m_Md_clear μ = some (r, μ') ∧ RlR x γ χ τ ρ tp' μ' := by
  obtain ⟨G, w, t, h1, h2, h3, h4, h5, h6, h7, h8⟩ := h
  rw [p_Rt_clear, p_Md_clear, h5.1, h8.2.2.1.1]
  have ma : ∀ b, b ≠ 0 → st2 (st2 μ 0 0 0) 0 12 0 b = μ b := fun b b0 => by rw [st2_a _ _ _ b0, st2_a _ _ _ b0]
  have mk : ∀ k, k ≠ 0 → k ≠ 12 → st2 (st2 μ 0 0 0) 0 12 0 0 k = μ 0 k := fun k k0 k12 => by rw [st2_k _ _ _ k12, st2_k _ _ _ k0]
  obtain ⟨k1, n2, n3, n4⟩ := h8
  exact ⟨_, _, _, rfl, rfl, G, w, [], h1, h2.same (mk 5 (by decide) (by decide)) (ma 2 (by decide)) (ma 3 (by decide)) (ma 4 (by decide)), h3, h4, SyL.nil 200 tp, by rw [mk 13 (by decide) (by decide)]; exact h6, h7, k1.same ⟨mk 1 (by decide) (by decide), mk 2 (by decide) (by decide), mk 4 (by decide) (by decide)⟩ (ma 1 (by decide)) (ma 2 (by decide)) (ma 3 (by decide)) (ma 4 (by decide)), n2.same (mk 10 (by decide) (by decide)) (ma 5 (by decide)), ⟨by rw [st2_s]; rfl, by simp, fun k hk => by simp at hk⟩, fun q => (n4 (by rw [mk 14 (by decide) (by decide)] at q; exact q)).same (ma 5 (by decide)) (ma 7 (by decide)) (ma 8 (by decide)) (ma 9 (by decide))⟩
/-- place -/
theorem c_place {x γ χ τ ρ tp μ : Nat → Nat → Int32} (h : RlR x γ χ τ ρ tp μ) : ∃ r μ', m_Rt_place x = some r ∧ m_Md_place μ = some (r, μ') ∧ RlR x γ χ τ ρ tp μ' := by
  have hth := h.th
  obtain ⟨G, w, t, h1, h2, h3, h4, h5, h6, h7, h8⟩ := h
  refine ⟨x 0 8, _, rfl, ?_, hth⟩
  rw [p_Md_place, h6]
