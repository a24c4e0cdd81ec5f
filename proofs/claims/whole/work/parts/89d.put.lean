theorem put_fin {γ γ1 : Nat → Nat → Int32} {G : Gm} (hG : GrOK γ G) (hnr : gR G < 30) {l : List Int32} (hl : l.length < 8) {x sl : Int32} (h4 : γ 0 4 = nI (vl l).length) (hA : RuleAt γ G (gR G) l) (f1 : ∀ c, c ≠ 6 → c ≠ 7 → γ1 c = γ c) (f6 : ∀ r, r ≠ gR G → γ1 6 r = γ 6 r) (f7 : ∀ z, z < 4 * gR G → γ1 7 z = γ 7 z) (e6 : γ1 6 (gR G) = nI (dv (l ++ [x])).length) (e7 : ∀ j, j < (dv (l ++ [x])).length → γ1 7 (4 * gR G + j) = nI (sX G ((dv (l ++ [x])).getD j 0))) (es : sl = if x < 0 then nI ((dv (l ++ [x])).idxOf x) else -1) {γ3 : Nat → Nat → Int32} (e3 : γ3 = if x < 0 then st2 (st2 (st2 (st2 γ1 5 (8 * gR G + l.length) sl) 4 (8 * gR G + l.length) x) 3 (gR G) (nI (l.length + 1))) 0 4 (γ1 0 4 + 1) else st2 (st2 (st2 γ1 5 (8 * gR G + l.length) sl) 4 (8 * gR G + l.length) x) 3 (gR G) (nI (l.length + 1))) : GrOK γ3 G ∧ RuleAt γ3 G (gR G) (l ++ [x]) ∧ γ3 0 3 = γ 0 3 ∧ γ3 0 4 = nI (vl (l ++ [x])).length ∧ γ3 2 = γ 2 := by
  have ga : ∀ c, c ≠ 0 → γ3 c = st2 (st2 (st2 γ1 5 (8 * gR G + l.length) sl) 4 (8 * gR G + l.length) x) 3 (gR G) (nI (l.length + 1)) c := by
    intro c c0
    rw [e3]
    by_cases q : x < 0
    · rw [if_pos q, st2_a _ _ _ c0]
    · rw [if_neg q]
  have gk : ∀ k, k ≠ 4 → γ3 0 k = γ 0 k := by
    intro k k4
    rw [e3]
    by_cases q : x < 0
    · rw [if_pos q, st2_k _ _ _ k4, st2_aj _ _ _ _ (by decide), st2_aj _ _ _ _ (by decide), st2_aj _ _ _ _ (by decide), f1 0 (by decide) (by decide)]
    · rw [if_neg q, st2_aj _ _ _ _ (by decide), st2_aj _ _ _ _ (by decide), st2_aj _ _ _ _ (by decide), f1 0 (by decide) (by decide)]
  have g4 : γ3 0 4 = nI (vl (l ++ [x])).length := by
    rw [e3]
    by_cases q : x < 0
    · rw [if_pos q, st2_s, f1 0 (by decide) (by decide), h4, nI_1, vl_snoc_n q, List.length_append, List.length_singleton]
    · rw [if_neg q, st2_aj _ _ _ _ (by decide), st2_aj _ _ _ _ (by decide), st2_aj _ _ _ _ (by decide), f1 0 (by decide) (by decide), h4, vl_snoc_s q]
  have a1 : γ3 1 = γ 1 := by rw [ga 1 (by decide), st2_a _ _ _ (by decide), st2_a _ _ _ (by decide), st2_a _ _ _ (by decide), f1 1 (by decide) (by decide)]
  have a2 : γ3 2 = γ 2 := by rw [ga 2 (by decide), st2_a _ _ _ (by decide), st2_a _ _ _ (by decide), st2_a _ _ _ (by decide), f1 2 (by decide) (by decide)]
  have a3 : ∀ r, r ≠ gR G → γ3 3 r = γ 3 r := fun r hr => by rw [ga 3 (by decide), st2_k _ _ _ hr, st2_aj _ _ _ _ (by decide), st2_aj _ _ _ _ (by decide), f1 3 (by decide) (by decide)]
  have a4 : ∀ z, z ≠ 8 * gR G + l.length → γ3 4 z = γ 4 z := fun z hz => by rw [ga 4 (by decide), st2_aj _ _ _ _ (by decide), st2_k _ _ _ hz, st2_aj _ _ _ _ (by decide), f1 4 (by decide) (by decide)]
  have a5 : ∀ z, z ≠ 8 * gR G + l.length → γ3 5 z = γ 5 z := fun z hz => by rw [ga 5 (by decide), st2_aj _ _ _ _ (by decide), st2_aj _ _ _ _ (by decide), st2_k _ _ _ hz, f1 5 (by decide) (by decide)]
  have a6 : γ3 6 = γ1 6 := by rw [ga 6 (by decide), st2_a _ _ _ (by decide), st2_a _ _ _ (by decide), st2_a _ _ _ (by decide)]
  have a7 : γ3 7 = γ1 7 := by rw [ga 7 (by decide), st2_a _ _ _ (by decide), st2_a _ _ _ (by decide), st2_a _ _ _ (by decide)]
  refine ⟨?_, ?_, gk 3 (by decide), g4, a2⟩
  · obtain ⟨k1, k2, k3, k4, k5, k6⟩ := hG
    refine ⟨k1, by rw [gk 0 (by decide)]; exact k2, by rw [gk 1 (by decide)]; exact k3, by rw [gk 2 (by decide)]; exact k4, fun v hv => by rw [a1]; exact k5 v hv, fun r hr => ⟨by rw [a2]; exact (k6 r hr).1, ?_⟩⟩
    exact (k6 r hr).2.fr (k1.2.2.2.2 r hr).2.2.1 (dv_le4 k1 hr) (a3 r (by omega)) (by rw [a6]; exact f6 r (by omega)) (fun k hk => a4 _ (by omega)) (fun k hk => a5 _ (by omega)) (fun j hj => by rw [a7]; exact f7 _ (by omega))
  · refine hA.put ?_ (fun k hk => a4 _ (by omega)) ?_ (fun k hk => a5 _ (by omega)) ?_ (by rw [a6]; exact e6) (fun j hj => by rw [a7]; exact e7 j hj)
    · rw [ga 3 (by decide), st2_s]
    · rw [ga 4 (by decide), st2_aj _ _ _ _ (by decide), st2_s]
    · rw [ga 5 (by decide), st2_aj _ _ _ _ (by decide), st2_aj _ _ _ _ (by decide), st2_s]
      exact es
/-- put -/
theorem c_put {N : Nat} (hN : 9 ≤ N) {x γ χ τ ρ tp μ : Nat → Nat → Int32} (h : RlR x γ χ τ ρ tp μ) (a : Int32) : ∃ r γ' μ', m_Rt_put N x γ a = some (r, γ') ∧ m_Md_put N μ a = some (r, μ') ∧ RlR x γ' χ τ ρ tp μ' := by
  have hth := h.th
  obtain ⟨G, w, t, h1, h2, h3, h4, h5, h6, h7, h8⟩ := h
  have hR := h1.1.2.2.1
  have hV := h1.1.2.1
  unfold m_Rt_put f_Rt_put_0 m_Gr_putSymbol f_Gr_putSymbol_0 m_Md_put f_Md_put_0
  have em5 : st2 μ 0 0 0 0 5 = μ 0 5 := st2_k _ _ _ (by decide)
  rw [nm_x (st2 μ 0 0 0), em5]
  rcases h2 with ⟨b1, b2⟩ | ⟨b1, b2, b3, sb, l, q1, q2, q3, q4, q5, q6, q7, q8, q9⟩
  · rw [if_pos b1, if_pos b2, b2_some]
    exact ⟨_, _, _, rfl, rfl, hth⟩
  · have hMV : st2 μ 0 0 0 0 2 = nI (gV G) := by rw [st2_k _ _ _ (by decide)]; exact h8.1.2.2.1
    have e3 : st2 μ 0 0 0 3 30 = nI l.length := by rw [st2_aj _ _ _ _ (by decide)]; exact q9.2.1
    rw [if_neg (show ¬ γ 0 3 = 0 by rw [b1]; decide), if_neg (show ¬ μ 0 5 = 0 by rw [b2]; decide), h1.2.2.2.1, l_30, if_neg (nI_ge b3 (by omega))]
    rcases p_hasSymbol1 h1.2.2.1 hV a with ⟨ha, ea⟩ | ⟨ha, ea⟩
    · rcases p_isSymbol hMV hV a with ⟨_, eb⟩ | ⟨hb, _⟩
      · rw [ea, eb, b1_some, b1_some, if_neg (by decide), if_neg (by decide), ck_n b3 (by omega), nI_clamp (by omega), q7.1, nm_d, ck_n (by omega) (by omega), nI_clamp (by omega), e3]
        by_cases full : l.length = 8
        · rw [l_8, if_pos (nI_le (by omega) (by omega)), if_pos (by rw [full]), b2_some]
          exact ⟨_, _, _, rfl, rfl, hth⟩
        · have hl : l.length < 8 := by omega
          rw [l_8, if_neg (nI_ge hl (by omega)), if_neg (fun q => full (nI_inj (by omega) (by omega) q))]
          have eat : nI (gR G) * nI 8 + nI l.length = nI (8 * gR G + l.length) := by rw [pk_mul, nI_add, Nat.mul_comm]
          -- the end, for both
          have fin : ∀ (γ1 : Nat → Nat → Int32) (sl : Int32), (a < 0 → (vl l).length < 4) → γ1 0 2 = nI (gR G) → (∀ c, c ≠ 6 → c ≠ 7 → γ1 c = γ c) → (∀ r, r ≠ gR G → γ1 6 r = γ 6 r) → (∀ z, z < 4 * gR G → γ1 7 z = γ 7 z) → γ1 6 (gR G) = nI (dv (l ++ [a])).length → (∀ j, j < (dv (l ++ [a])).length → γ1 7 (4 * gR G + j) = nI (sX G ((dv (l ++ [a])).getD j 0))) → (sl = if a < 0 then nI ((dv (l ++ [a])).idxOf a) else -1) → ∃ r γ' μ', (bd2 (f_Gr_putSymbol_84 N γ1 a (nI l.length) (nI (8 * gR G + l.length)) (nI (8 * gR G + l.length)) sl) fun r_1 s_grammar_2 => some (r_1, s_grammar_2)) = some (r, γ') ∧ f_Md_put_48 N (st2 μ 0 0 0) a = some (r, μ') ∧ RlR x γ' χ τ ρ tp μ' := by
            intro γ1 sl hvl e02 f1 f6 f7 e6 e7 es
            rw [p_put84 b3 hl e02, b2_some, q_put48 hl e3]
            refine ⟨_, _, _, rfl, rfl, ?_⟩
            obtain ⟨γ3, eγ⟩ : ∃ γ3, γ3 = if a < 0 then st2 (st2 (st2 (st2 γ1 5 (8 * gR G + l.length) sl) 4 (8 * gR G + l.length) a) 3 (gR G) (nI (l.length + 1))) 0 4 (γ1 0 4 + 1) else st2 (st2 (st2 γ1 5 (8 * gR G + l.length) sl) 4 (8 * gR G + l.length) a) 3 (gR G) (nI (l.length + 1)) := ⟨_, rfl⟩
            rw [← eγ]
            obtain ⟨r1, r2, r3, r4, r5⟩ := put_fin h1 b3 hl q5 q7 f1 f6 f7 e6 e7 es eγ
            obtain ⟨s1, s2⟩ := h8.put (len := l.length) a
            refine ⟨G, w, t, r1, Or.inr ⟨by rw [r3]; exact b1, ?_, b3, sb, l ++ [a], q1, by simp; omega, ?_, ?_, r4, by rw [r5]; exact q6, r2, ?_, q9.put hl a⟩, h3, h4, h5, by rw [s2]; exact h6, h7, s1⟩
            · rw [st2_aj _ _ _ _ (by decide), st2_aj _ _ _ _ (by decide), st2_k _ _ _ (by decide)]
              exact b2
            · intro z hz
              rcases List.mem_append.mp hz with hz | hz
              · exact q3 z hz
              · have : z = a := by simpa using hz
                rw [this]
                exact ha
            · by_cases n : a < 0
              · rw [vl_snoc_n n, List.length_append, List.length_singleton]
                have := hvl n
                omega
              · rw [vl_snoc_s n]
                exact q4
            · rw [st2_aj _ _ _ _ (by decide), st2_aj _ _ _ _ (by decide), st2_aj _ _ _ _ (by decide)]
              exact q8
          by_cases n : a < 0
          · rw [if_neg (Int32.not_le.mpr n), if_neg (Int32.not_le.mpr n), q5, q_vars hN (q9.same (st2_a _ _ _ (by decide)) (st2_a _ _ _ (by decide))), b1_some]
            by_cases v4 : (vl l).length = 4
            · rw [l_4, if_neg (of_eq_false (c_lt_f (by omega) (by omega))), if_pos (by rw [v4]), b2_some]
              exact ⟨_, _, _, rfl, rfl, hth⟩
            · have hv4 : (vl l).length < 4 := by omega
              have hd4 := dv_vl_len l
              rw [l_4, if_pos (of_eq_true (c_lt_t hv4 (by omega))), if_neg (fun q => v4 (nI_inj (by omega) (by omega) q))]
              unfold f_Gr_putSymbol_56
              rw [h1.2.2.2.1, l_8, eat, nm_d, if_neg (Int32.not_le.mpr n)]
              obtain ⟨v, hv, ev⟩ : ∃ v, v < gV G ∧ a = vS v := by
                rcases ha with ⟨c, hc, e⟩ | h
                · rw [e] at n
                  exact absurd n (nI_pos (by omega))
                · exact h
              subst ev
              have esx : sX G (vS v) = gvs G v := by
                unfold sX
                rw [vI_vS (by omega)]
              rcases p_slotIn hN b3 h1.2.2.2.1 h1.2.2.2.2.1 hV q2 q7 (by omega) hv with ⟨m1, m2⟩ | ⟨m1, m2⟩
              · have ed := dv_snoc_s (l := l) (x := vS v) (fun q => q.2 m1)
                rw [m2, b2_some]
                exact fin γ _ (fun _ => hv4) h1.2.2.2.1 (fun _ _ _ => rfl) (fun _ _ => rfl) (fun _ _ => rfl) (by rw [ed]; exact q7.2.2.1) (by rw [ed]; exact q7.2.2.2) (by rw [if_pos n, ed])
              · have ed := dv_snoc_n (l := l) (x := vS v) ⟨n, m1⟩
                rw [m2, b2_some]
                refine fin _ _ (fun _ => hv4) ?_ (fun c c6 c7 => by rw [st2_a _ _ _ c6, st2_a _ _ _ c7]) (fun r hr => by rw [st2_k _ _ _ hr, st2_aj _ _ _ _ (by decide)]) (fun z hz => by rw [st2_aj _ _ _ _ (by decide), st2_k _ _ _ (by omega)]) ?_ ?_ ?_
                · rw [st2_aj _ _ _ _ (by decide), st2_aj _ _ _ _ (by decide)]
                  exact h1.2.2.2.1
                · rw [st2_s, ed, List.length_append, List.length_singleton]
                · rw [ed]
                  intro j hj
                  rw [List.length_append, List.length_singleton] at hj
                  rw [st2_aj _ _ _ _ (by decide)]
                  by_cases e : j = (dv l).length
                  · rw [e, st2_s, getD_snoc_r, esx]
                  · rw [st2_k _ _ _ (by omega), getD_snoc_l (by omega)]
                    exact q7.2.2.2 j (by omega)
                · rw [if_pos n, ed, idx_new m1]
          · rw [if_pos (Int32.not_lt.mp n), if_pos (Int32.not_lt.mp n)]
            unfold f_Gr_putSymbol_56
            have ed := dv_snoc_s (l := l) (x := a) (fun q => n q.1)
            rw [h1.2.2.2.1, l_8, eat, nm_d, if_pos (Int32.not_lt.mp n)]
            exact fin γ _ (fun q => absurd q n) h1.2.2.2.1 (fun _ _ _ => rfl) (fun _ _ => rfl) (fun _ _ => rfl) (by rw [ed]; exact q7.2.2.1) (by rw [ed]; exact q7.2.2.2) (by rw [if_neg n])
      · exact absurd ha hb
    · rcases p_isSymbol hMV hV a with ⟨hb, _⟩ | ⟨_, eb⟩
      · exact absurd hb ha
      · rw [ea, eb, b1_some, b1_some, if_pos rfl, if_pos rfl, b2_some]
        exact ⟨_, _, _, rfl, rfl, hth⟩
