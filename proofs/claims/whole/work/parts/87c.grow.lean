/-! grow, in the model -/
def cu (G : Gm) (cs : List Int32) : List (List Int32) := (yv G cs).map (List.take 13)
theorem cu_len (G : Gm) (cs : List Int32) : (cu G cs).length = (yv G cs).length := List.length_map _
theorem yv_len {G : Gm} : ∀ (cs : List Int32), (yv G cs).length ≤ cs.length
  | [] => Nat.le_refl _
  | c :: cs => by
    have ih := yv_len (G := G) cs
    show (if c < 0 then _ else _ : List (List Int32)).length ≤ _
    by_cases h : c < 0
    · rw [if_pos h, List.length_cons, List.length_cons]
      omega
    · rw [if_neg h, List.length_cons, List.length_cons, List.length_drop]
      omega
theorem cu_step {G : Gm} (c : Int32) (cs : List Int32) : cu G (c :: cs) = if c < 0 then [c] :: cu G cs else ((gry G c.toNatClampNeg).flatMap (sub (asg (dv (gry G c.toNatClampNeg)) (cu G cs)))).take 13 :: (cu G cs).drop (dv (gry G c.toNatClampNeg)).length := by
  unfold cu
  show (if c < 0 then _ else _ : List (List Int32)).map _ = _
  by_cases h : c < 0
  · rw [if_pos h, if_pos h]
    rfl
  · rw [if_neg h, if_neg h, List.map_cons, List.map_drop]
    congr 1
    exact (cut_flat _ (fun x _ _ => asg_cut _ _ x)).symm
theorem q_grow39 {N : Nat} (hN : 20 ≤ N) {G : Gm} {cs : List Int32} (hv : Vld G cs) (hl : cs.length ≤ 200) (kx : (Nat → Nat → Int32) → Option (Int32 × (Nat → Nat → Int32))) : ∀ (j n : Nat) (μ : Nat → Nat → Int32), j ≤ cs.length → j < n → MdG μ G → MdT μ cs → RwS μ (cu G (cs.drop j)) → ∃ μ', (∀ c, c ≠ 0 → c ≠ 20 → c ≠ 21 → c ≠ 22 → μ' c = μ c) ∧ (∀ k, k ≠ 33 → μ' 0 k = μ 0 k) ∧ RwS μ' (cu G cs) ∧ l_Md_grow_39 N kx n μ (dn j) = kx μ' := by
  intro j
  induction j with
  | zero =>
    intro n μ hj hn hG hT hS
    obtain ⟨n, rfl⟩ : ∃ m, n = m + 1 := ⟨n - 1, by omega⟩
    rw [List.drop_zero] at hS
    refine ⟨μ, fun _ _ _ _ _ => rfl, fun _ _ => rfl, hS, ?_⟩
    unfold l_Md_grow_39 f_Md_grow_39
    rw [if_pos (of_eq_true dn_neg)]
  | succ j ih =>
    intro n μ hj hn hG hT hS
    obtain ⟨n, rfl⟩ : ∃ m, n = m + 1 := ⟨n - 1, by omega⟩
    have hdr : cs.drop j = cs.getD j 0 :: cs.drop (j + 1) := drop_getD (by omega)
    have hvj := Vld_drop j hv
    rw [hdr] at hvj
    have hyl := yv_len (G := G) (cs.drop (j + 1))
    rw [List.length_drop] at hyl
    obtain ⟨μ1, a1, a2, a3, a4⟩ := q_makeRow hN hG hvj.2.1 (Y := cu G (cs.drop (j + 1))) (by rw [cu_len]; omega) (by rw [cu_len]; exact hvj.2.2) hS
    rw [← cu_step, ← hdr] at a3
    obtain ⟨μ', g1, g2, g3, g4⟩ := ih n μ1 (by omega) (by omega) (hG.fq (fun z hz => a2 z (by omega)) (fun b hb => a1 b (by omega) (by omega) (by omega) (by omega))) ⟨by rw [a2 12 (by decide)]; exact hT.1, hl, fun k hk => by rw [a1 6 (by decide) (by decide) (by decide) (by decide)]; exact hT.2.2 k hk⟩ a3
    refine ⟨μ', fun c c0 c1 c2 c3 => by rw [g1 c c0 c1 c2 c3, a1 c c0 c1 c2 c3], fun k hk => by rw [g2 k hk, a2 k hk], g3, ?_⟩
    unfold l_Md_grow_39 f_Md_grow_39
    rw [dn_s, if_neg (nI_pos (by omega)), ck_n (by omega) (by omega), nI_clamp (by omega), hT.2.2 j (by omega), a4, b1_some, dn_m, nm_d]
    exact g4
theorem q_grow84 {N : Nat} {y : List Int32} (hy : y.length ≤ 12) (μ0 : Nat → Nat → Int32) (h10 : μ0 0 10 = nI y.length) (h20 : ∀ e, e < y.length → μ0 20 e = y.getD e 0) (kx : (Nat → Nat → Int32) → Option (Int32 × (Nat → Nat → Int32))) : ∀ (d k n : Nat) (μ : Nat → Nat → Int32), k + d = y.length → d < n → (∀ c, c ≠ 5 → μ c = μ0 c) → (∀ e, e < k → μ 5 e = y.getD e 0) → ∃ μ', (∀ c, c ≠ 5 → μ' c = μ0 c) ∧ (∀ e, e < y.length → μ' 5 e = y.getD e 0) ∧ l_Md_grow_84 N kx n μ (nI k) = kx μ' := by
  intro d
  induction d with
  | zero =>
    intro k n μ hk hn h1 h2
    obtain ⟨n, rfl⟩ : ∃ m, n = m + 1 := ⟨n - 1, by omega⟩
    have : k = y.length := by omega
    subst this
    refine ⟨μ, h1, h2, ?_⟩
    unfold l_Md_grow_84 f_Md_grow_84
    rw [h1 0 (by decide), h10, if_pos (nI_le (Nat.le_refl _) (by omega))]
  | succ d ih =>
    intro k n μ hk hn h1 h2
    obtain ⟨n, rfl⟩ : ∃ m, n = m + 1 := ⟨n - 1, by omega⟩
    obtain ⟨μ', g1, g2, g3⟩ := ih (k + 1) n (st2 μ 5 k (y.getD k 0)) (by omega) (by omega) (fun c hc => by rw [st2_a _ _ _ hc]; exact h1 c hc) (fun e he => by
      by_cases q : e = k
      · subst q
        exact st2_s _ _ _ _
      · rw [st2_k _ _ _ q]
        exact h2 e (by omega))
    refine ⟨μ', g1, g2, ?_⟩
    unfold l_Md_grow_84 f_Md_grow_84
    rw [h1 0 (by decide), h10, if_neg (nI_ge (by omega) (by omega)), ck_n (by omega) (by omega), ck_n (by omega) (by omega), nI_clamp (by omega), h1 20 (by decide), h20 k (by omega), nm_d, nm_d, nI_1]
    exact g3
def Fg (μ μ' : Nat → Nat → Int32) : Prop := (∀ c, c ≠ 0 → c ≠ 5 → c < 19 → μ' c = μ c) ∧ ∀ k, k ≠ 0 → k ≠ 10 → k ≠ 13 → k ≠ 14 → k ≠ 33 → μ' 0 k = μ 0 k
theorem q_grow {N : Nat} (hN : 300 ≤ N) {G : Gm} {μ : Nat → Nat → Int32} {cs : List Int32} (hG : MdG μ G) (hT : MdT μ cs) {s : Nat} (hs : s < gS G) :
    (∃ v pl μ', rdr G cs 0 [s] v pl ∧ v ≠ 0 ∧ μ' 0 13 = nI pl ∧ Fg μ μ' ∧ μ' 5 = μ 5 ∧ μ' 0 10 = μ 0 10 ∧ μ' 0 14 = μ 0 14 ∧ m_Md_grow N μ (nI s) = some (nI v, μ')) ∨
    (∃ pl y μ', rdr G cs 0 [s] 0 pl ∧ yv G cs = [y] ∧ μ' 0 13 = -1 ∧ Fg μ μ' ∧ ((y.length ≤ 12 ∧ MdW μ' y ∧ μ' 0 14 = 0 ∧ m_Md_grow N μ (nI s) = some (0, μ')) ∨ (12 < y.length ∧ μ' 5 = μ 5 ∧ μ' 0 10 = μ 0 10 ∧ μ' 0 14 = μ 0 14 ∧ m_Md_grow N μ (nI s) = some (5, μ')))) := by
  have hl := hT.2.1
  have hS6 := hG.1.1
  have hG1 : MdG (st2 μ 0 0 0) G := hG.fq (fun z hz => st2_k _ _ _ (by omega)) (fun b hb => st2_a _ _ _ (by omega))
  have hT1 : MdT (st2 μ 0 0 0) cs := ⟨by rw [st2_k _ _ _ (by decide)]; exact hT.1, hl, fun k hk => by rw [st2_a _ _ _ (by decide)]; exact hT.2.2 k hk⟩
  obtain ⟨μ1, v, pl, a1, a2, a3, a4, a5⟩ := q_fits (N := N) (by omega) hG1 hT1 (show s < 6 by omega)
  have hv4 := (rdr_le a1).1
  have his : m_Md_isSort (st2 μ 0 0 0) (nI s) = some 1 := by
    rcases p_Md_isSort hG1.2.1 hS6 (nI s) with ⟨j, _, _, e⟩ | ⟨h | h, _⟩
    · exact e
    · exact absurd h (nI_pos (by omega))
    · exact absurd h (nI_ge hs (by omega))
  have f1 : Fg μ μ1 := ⟨fun c c0 _ c19 => by rw [a2 c c0 (by omega), st2_a _ _ _ c0], fun k k0 _ k13 _ _ => by rw [a3 k k13, st2_k _ _ _ k0]⟩
  have u5 : μ1 5 = μ 5 := by rw [a2 5 (by decide) (by decide), st2_a _ _ _ (by decide)]
  have u10 : μ1 0 10 = μ 0 10 := by rw [a3 10 (by decide), st2_k _ _ _ (by decide)]
  have u14 : μ1 0 14 = μ 0 14 := by rw [a3 14 (by decide), st2_k _ _ _ (by decide)]
  obtain ⟨X, hX⟩ : ∃ X, X = m_Md_grow N μ (nI s) := ⟨_, rfl⟩
  rw [← hX]
  have step : X = f_Md_grow_0 N μ (nI s) := hX
  unfold f_Md_grow_0 at step
  rw [nm_d, his, b1_some, if_neg (by decide), a5, b2_some] at step
  by_cases v0 : v = 0
  · subst v0
    rw [if_pos rfl] at a4
    rw [if_pos (of_eq_true (c_le0_t rfl)), nm_d] at step
    obtain ⟨w1, w2⟩ := rdr_vld hG.1 a1
    obtain ⟨y, ey⟩ : ∃ y, yv G cs = [y] := by
      match h : yv G cs, w2 with
      | [y], _ => exact ⟨y, rfl⟩
    have hG2 : MdG (st2 μ1 0 33 0) G := hG1.fq (fun z hz => by rw [st2_k _ _ _ (by omega), a3 z (by omega)]) (fun b hb => by rw [st2_a _ _ _ (by omega), a2 b (by omega) (by omega)])
    have hT2 : MdT (st2 μ1 0 33 0) cs := ⟨by rw [st2_k _ _ _ (by decide), a3 12 (by decide)]; exact hT1.1, hl, fun k hk => by rw [st2_a _ _ _ (by decide), a2 6 (by decide) (by decide)]; exact hT1.2.2 k hk⟩
    obtain ⟨μ2, b1, b2, b3, b4⟩ := q_grow39 (N := N) (by omega) w1 hl (fun s_self => f_Md_grow_59 N s_self) cs.length N (st2 μ1 0 33 0) (Nat.le_refl _) (by omega) hG2 hT2 (by
      rw [List.drop_length]
      exact ⟨by rw [st2_s]; rfl, fun k hk => by simp [cu, yv] at hk⟩)
    unfold dn at b4
    rw [hT2.1, nm_d, b4] at step
    have ecu : cu G cs = [y.take 13] := by
      unfold cu
      rw [ey]
      rfl
    rw [ecu] at b3
    obtain ⟨s1, s2, s3⟩ := b3.2 0 (by simp)
    have s2 : μ2 21 0 = nI (y.take 13).length := s2
    have s3 : ∀ e, e < (y.take 13).length → μ2 20 e = (y.take 13).getD e 0 := fun e he => by
      have := s3 e he
      simpa using this
    rw [List.length_take] at s2 s3
    unfold f_Md_grow_59 at step
    rw [show ck 0 200 = ck (nI 0) 200 from rfl, ck_n (by omega) (by omega), show Int32.toNatClampNeg 0 = 0 from rfl, s2] at step
    have f2 : Fg μ μ2 := ⟨fun c c0 c5 c19 => by rw [b1 c c0 (by omega) (by omega) (by omega), st2_a _ _ _ c0, f1.1 c c0 c5 c19], fun k k0 k10 k13 k14 k33 => by rw [b2 k k33, st2_k _ _ _ k33, f1.2 k k0 k10 k13 k14 k33]⟩
    have p13 : μ2 0 13 = -1 := by rw [b2 13 (by decide), st2_k _ _ _ (by decide), a4]
    right
    by_cases hy : y.length ≤ 12
    · have etk : y.take 13 = y := List.take_of_length_le (by omega)
      rw [etk] at s3
      rw [l_12, if_pos (nI_le (by omega) (by omega)), ck_n (by omega) (by omega), show min 13 y.length = y.length by omega, nm_d] at step
      obtain ⟨μ3, c1, c2, c3⟩ := q_grow84 (N := N) hy (st2 μ2 0 10 (nI y.length)) (st2_s _ _ _ _) (fun e he => by rw [st2_a _ _ _ (by decide)]; exact s3 e (by omega)) (fun s_self => f_Md_grow_110 N s_self) y.length 0 N (st2 μ2 0 10 (nI y.length)) (by omega) (by omega) (fun _ _ => rfl) (fun e he => by omega)
      rw [nI_0] at c3
      rw [c3] at step
      unfold f_Md_grow_110 at step
      rw [nm_d] at step
      refine ⟨pl, y, st2 μ3 0 14 0, a1, ey, ?_, ?_, Or.inl ⟨hy, ?_, st2_s _ _ _ _, step⟩⟩
      · rw [st2_k _ _ _ (by decide), c1 0 (by decide), st2_k _ _ _ (by decide)]
        exact p13
      · exact ⟨fun c c0 c5 c19 => by rw [st2_a _ _ _ c0, c1 c c5, st2_a _ _ _ c0, f2.1 c c0 c5 c19], fun k k0 k10 k13 k14 k33 => by rw [st2_k _ _ _ k14, c1 0 (by decide), st2_k _ _ _ k10, f2.2 k k0 k10 k13 k14 k33]⟩
      · exact ⟨by rw [st2_k _ _ _ (by decide), c1 0 (by decide), st2_s], hy, fun k hk => by rw [st2_a _ _ _ (by decide)]; exact c2 k hk⟩
    · rw [l_12, if_neg (nI_ge (by omega) (by omega))] at step
      refine ⟨pl, y, μ2, a1, ey, p13, f2, Or.inr ⟨by omega, ?_, ?_, ?_, step⟩⟩
      · rw [b1 5 (by decide) (by decide) (by decide) (by decide), st2_a _ _ _ (by decide), u5]
      · rw [b2 10 (by decide), st2_k _ _ _ (by decide), u10]
      · rw [b2 14 (by decide), st2_k _ _ _ (by decide), u14]
  · rw [if_neg v0] at a4
    rw [if_neg (of_eq_false (c_le0 (by omega) (by omega)))] at step
    exact Or.inl ⟨v, pl, μ1, a1, v0, a4, f1, u5, u10, u14, step⟩
