/-! trees, size, code, stretches -/
def Cel (G : Gm) (χ τ μ : Nat → Nat → Int32) (C : Nat → List Int32) (V : Nat → Prop) (w : List Int32) (vf : Nat → Nat → Nat → Nat) (pf : Nat → Nat → Nat → List (List Int32)) : Prop := ∀ s, s < gS G → ∀ i j, i < j → j ≤ w.length → vf s i j ≤ 1000002 ∧ χ 1 (cO s i j) = nI (vf s i j) ∧ μ 7 (mO s i j) = mW (vf s i j) ∧ Pair τ C V (cO s i j) (pf s i j) ∧ MP μ (mO s i j) (pf s i j)
theorem both {N : Nat} (hN : NB ≤ N) {x γ χ τ ρ tp μ : Nat → Nat → Int32} {G : Gm} {w t : List Int32} (h1 : GrOK γ G) (h2 : Bgn γ μ G) (h3 : SyL 12 ρ w) (h4 : ∀ z, z ∈ w → okSym (gV G) z) (h5 : SyL 200 tp t) (h6 : x 0 8 = μ 0 13) (h7 : ChR G χ τ) (h8 : MSt μ G w t) :
    ∃ χ' τ' μ' C V us D vf pf, ChD G χ' τ' C V us D ∧ w.length ≤ D ∧ m_Ch_catchUp N 12 χ γ τ ρ = some (χ', τ') ∧ m_Md_know N (st2 μ 0 0 0) = some μ' ∧ MSt μ' G w t ∧ RlR x γ χ' τ' ρ tp μ' ∧ Cel G χ' τ' μ' C V w vf pf ∧ (∀ τ'', ChR G χ' τ'' → RlR x γ χ' τ'' ρ tp μ') ∧ RlR x γ χ τ ρ tp μ' := by
  have hNB : 70000 ≤ NB := by unfold NB; omega
  obtain ⟨χ', τ', C, V, us, D, a1, a2, a3, a4⟩ := p_catchUp (N := N) (by omega) h1 h3 h4 h7
  have h8' : MSt (st2 μ 0 0 0) G w t := h8.same (fun b b0 _ => st2_a _ _ _ b0) (fun k k0 _ => st2_k _ _ _ k0)
  obtain ⟨μ', b1, b2, b3⟩ := q_know hN h4 h8'.1 h8'.2.1 h8'.2.2.2
  have hm : MSt μ' G w t := ⟨h8'.1.fk b1, h8'.2.1.fk b1, h8'.2.2.1.same (b1.2 12 (by decide) (by decide) (by decide) (by decide)) (b1.1 6 (by decide) (by omega)), fun _ => b2⟩
  have hb : Bgn γ μ' G := (h2.same (μ' := st2 μ 0 0 0) (st2_k _ _ _ (by decide)) (st2_a _ _ _ (by decide)) (st2_a _ _ _ (by decide)) (st2_a _ _ _ (by decide))).same (b1.2 5 (by decide) (by decide) (by decide) (by decide)) (b1.1 2 (by decide) (by omega)) (b1.1 3 (by decide) (by omega)) (b1.1 4 (by decide) (by omega))
  have h6' : x 0 8 = μ' 0 13 := by rw [b1.2 13 (by decide) (by decide) (by decide) (by decide), st2_k _ _ _ (by decide)]; exact h6
  have cel : ∀ s i j, ∃ v p, s < gS G → i < j → j ≤ w.length → v ≤ 1000002 ∧ χ' 1 (cO s i j) = nI v ∧ μ' 7 (mO s i j) = mW v ∧ Pair τ' C V (cO s i j) p ∧ MP μ' (mO s i j) p := by
    intro s i j
    by_cases c : s < gS G ∧ i < j ∧ j ≤ w.length
    · obtain ⟨c1, c2, c3⟩ := c
      have hs6 : s < 6 := by
        have := h1.1.1
        omega
      obtain ⟨v, p, d1, d2, d3, d4⟩ := a1.cell hs6 c2 (show j ≤ D by omega)
      obtain ⟨v', p', e1, e2, e3, e4⟩ := b2 s c1 i j c2 c3
      have esg : sg (χ' 2) i j = sg (μ' 5) i j := sg_congr (fun k k1 k2 => by rw [a3 k (by omega), hm.2.1.2.2 k (by omega)])
      rw [esg] at d2 d4
      have ev := d2.uniq e2
      have ep := d4.uniq e4
      subst ev
      subst ep
      exact ⟨v, p, fun _ _ _ => ⟨d2.le, d1, e1, d3, e3⟩⟩
    · exact ⟨0, [], fun c1 c2 c3 => absurd ⟨c1, c2, c3⟩ c⟩
  refine ⟨χ', τ', μ', C, V, us, D, fun s i j => (cel s i j).choose, fun s i j => (cel s i j).choose_spec.choose, a1, a2, a4, b3, hm, ⟨G, w, t, h1, hb, h3, h4, h5, h6', a1.r, hm⟩, fun s hs i j hij hj => (cel s i j).choose_spec.choose_spec hs hij hj, fun τ'' hc => ⟨G, w, t, h1, hb, h3, h4, h5, h6', hc, hm⟩, ⟨G, w, t, h1, hb, h3, h4, h5, h6', h7, hm⟩⟩
/-- trees -/
theorem c_trees {N : Nat} (hN : NB ≤ N) {x γ χ τ ρ tp μ : Nat → Nat → Int32} (h : RlR x γ χ τ ρ tp μ) (a b c : Int32) : ∃ r χ' τ' μ', m_Rt_trees N 12 x γ χ τ ρ a b c = some (r, χ', τ') ∧ m_Md_trees N μ a b c = some (r, μ') ∧ RlR x γ χ' τ' ρ tp μ' := by
  have hth := h.th
  obtain ⟨G, w, t, h1, h2, h3, h4, h5, h6, h7, h8⟩ := h
  have hS := h1.1.1
  have hl := h3.2.1
  have hS2 : st2 μ 0 0 0 0 1 = nI (gS G) := by rw [st2_k _ _ _ (by decide)]; exact h8.1.2.1
  have hW2 : st2 μ 0 0 0 0 10 = nI w.length := by rw [st2_k _ _ _ (by decide)]; exact h8.2.1.1
  obtain ⟨X, hX⟩ : ∃ X, X = m_Rt_trees N 12 x γ χ τ ρ a b c := ⟨_, rfl⟩
  obtain ⟨Y, hY⟩ : ∃ Y, Y = m_Md_trees N μ a b c := ⟨_, rfl⟩
  rw [← hX, ← hY]
  unfold m_Rt_trees f_Rt_trees_0 at hX
  unfold m_Md_trees f_Md_trees_0 at hY
  rw [nm_d, hW2] at hY
  rw [h3.1] at hX
  rcases p_sortArg h1.2.1 hS2 hS a with ⟨s, hs, rfl, e1, e2⟩ | ⟨e1, e2⟩
  · rw [e1, b1_some, if_neg (by decide)] at hX
    rw [e2, b1_some, if_neg (by decide)] at hY
    by_cases c1 : b < 0
    · rw [if_pos c1] at hX hY
      exact ⟨_, _, _, _, hX, hY, hth⟩
    · rw [if_neg c1] at hX hY
      by_cases c2 : c ≤ b
      · rw [if_pos c2] at hX hY
        exact ⟨_, _, _, _, hX, hY, hth⟩
      · rw [if_neg c2] at hX hY
        by_cases c3 : c ≤ nI w.length
        · rw [if_pos c3] at hX hY
          obtain ⟨i, hi, rfl⟩ := nI_of c1
          obtain ⟨j, hj, rfl⟩ := nI_of (x := c) (fun q => c2 (by
            rw [Int32.le_iff_toInt_le]
            have q1 := Int32.lt_iff_toInt_lt.mp q
            rw [nI_toInt hi]
            have : (0 : Int32).toInt = 0 := rfl
            omega))
          rw [i_le hj (by omega)] at c3
          rw [i_le hj hi] at c2
          obtain ⟨χ', τ', μ', C, V, us, D, vf, pf, b1, b2, b3, b4, b5, b6, b7, _, _⟩ := both hN h1 h2 h3 h4 h5 h6 h7 h8
          obtain ⟨v1, v2, v3, _, _⟩ := b7 s hs i j (by omega) c3
          have hc := mO_lt (show s < 6 by omega) (show i < 12 by omega) (show j ≤ 12 by omega)
          rw [b3, b2_some, p_waysOf (by omega) (by omega) (by omega), b1_some, v2] at hX
          rw [b4, b1_some, q_cellOf, b1_some, ck_n (by omega) (by omega), nI_clamp (by omega), v3, nm_d] at hY
          by_cases z1 : vf s i j = 1000002
          · rw [z1, l_1000002, if_pos rfl] at hX
            rw [z1, mW_E, if_neg (by decide)] at hY
            exact ⟨_, _, _, _, hX, hY, b6⟩
          · rw [l_1000002, if_neg (fun q => z1 (nI_inj (by omega) (by omega) q))] at hX
            rw [mW_n z1] at hY
            by_cases z2 : vf s i j = 1000001
            · rw [l_1000001, if_pos (by rw [z2])] at hX hY
              exact ⟨_, _, _, _, hX, hY, b6⟩
            · rw [l_1000001, if_neg (fun q => z2 (nI_inj (by omega) (by omega) q))] at hX hY
              exact ⟨_, _, _, _, hX, hY, b6⟩
        · rw [if_neg c3] at hX hY
          exact ⟨_, _, _, _, hX, hY, hth⟩
  · rw [e1, b1_some, if_pos rfl] at hX
    rw [e2, b1_some, if_pos rfl] at hY
    exact ⟨_, _, _, _, hX, hY, hth⟩
/-- both sides agree on which trees may be asked for -/
theorem canHave {x γ ρ : Nat → Nat → Int32} {G : Gm} (h1 : GrOK γ G) {w t : List Int32} (h3 : SyL 12 ρ w) {μ : Nat → Nat → Int32} (h8 : MSt μ G w t) (a b : Int32) : (∃ s q, s < gS G ∧ q < 2 ∧ 0 < w.length ∧ a = nI s ∧ b = nI q ∧ m_Rt_canHaveTree 12 x γ ρ a b = some 1 ∧ m_Md_treeOf μ a b = some (nI (2 * mO s 0 w.length + q))) ∨ (m_Rt_canHaveTree 12 x γ ρ a b = some 0 ∧ m_Md_treeOf μ a b = some (-1)) := by
  have hS := h1.1.1
  have hl := h3.2.1
  obtain ⟨X, hX⟩ : ∃ X, X = m_Rt_canHaveTree 12 x γ ρ a b := ⟨_, rfl⟩
  obtain ⟨Y, hY⟩ : ∃ Y, Y = m_Md_treeOf μ a b := ⟨_, rfl⟩
  rw [← hX, ← hY]
  unfold m_Rt_canHaveTree f_Rt_canHaveTree_0 at hX
  unfold m_Md_treeOf f_Md_treeOf_0 at hY
  rw [h3.1] at hX
  rw [h8.2.1.1] at hY
  rcases p_sortArg h1.2.1 h8.1.2.1 hS a with ⟨s, hs, rfl, e1, e2⟩ | ⟨e1, e2⟩
  · rw [e1, b1_some, if_neg (by decide)] at hX
    rw [e2, b1_some, if_neg (by decide)] at hY
    by_cases hb : b < 0
    · rw [if_neg (show ¬ b = 0 from fun q => by rw [q] at hb; exact absurd hb (by decide)), if_neg (show ¬ b = 1 from fun q => by rw [q] at hb; exact absurd hb (by decide))] at hX
      rw [if_pos hb] at hY
      exact Or.inr ⟨hX, hY⟩
    · obtain ⟨q, hq, rfl⟩ := nI_of hb
      rw [if_neg hb] at hY
      by_cases q2 : q < 2
      · have hX2 : X = if nI w.length ≤ 0 then some 0 else some 1 := by
          rw [hX]
          rcases (show q = 0 ∨ q = 1 by omega) with rfl | rfl
          · rw [if_pos nI_0]
          · rw [if_neg (by decide), if_pos (show nI 1 = 1 from rfl)]
        rw [if_neg (of_eq_false (c_1lt_f (by omega)))] at hY
        by_cases z : w.length = 0
        · rw [if_pos (of_eq_true (c_le0_t z))] at hX2 hY
          exact Or.inr ⟨hX2, hY⟩
        · rw [if_neg (of_eq_false (c_le0 (by omega) (by omega)))] at hX2 hY
          refine Or.inl ⟨s, q, hs, q2, by omega, rfl, rfl, hX2, ?_⟩
          unfold f_Md_treeOf_29 at hY
          rw [if_neg (by decide), h8.2.1.1, ← nI_0, q_cellOf, b1_some, l_2, pk_mul, nI_add] at hY
          exact hY
      · rw [if_neg (nI_ne0 (by omega) hq), if_neg (of_eq_false (c_ne1 (by omega) hq))] at hX
        rw [if_pos (of_eq_true (c_1lt (by omega) hq))] at hY
        exact Or.inr ⟨hX, hY⟩
  · rw [e1, b1_some, if_pos rfl] at hX
    rw [e2, b1_some, if_pos rfl] at hY
    exact Or.inr ⟨hX, hY⟩
/-- size -/
theorem c_size {N : Nat} (hN : NB ≤ N) {x γ χ τ ρ tp μ : Nat → Nat → Int32} (h : RlR x γ χ τ ρ tp μ) (a b : Int32) : ∃ r χ' τ' μ', m_Rt_size N 12 x γ χ τ ρ a b = some (r, χ', τ') ∧ m_Md_size N μ a b = some (r, μ') ∧ RlR x γ χ' τ' ρ tp μ' := by
  obtain ⟨G, w, t, h1, h2, h3, h4, h5, h6, h7, h8⟩ := h
  have hS := h1.1.1
  have hl := h3.2.1
  obtain ⟨χ', τ', μ', C, V, us, D, vf, pf, b1, b2, b3, b4, b5, b6, b7, _, b9⟩ := both hN h1 h2 h3 h4 h5 h6 h7 h8
  obtain ⟨X, hX⟩ : ∃ X, X = m_Rt_size N 12 x γ χ τ ρ a b := ⟨_, rfl⟩
  obtain ⟨Y, hY⟩ : ∃ Y, Y = m_Md_size N μ a b := ⟨_, rfl⟩
  rw [← hX, ← hY]
  unfold m_Rt_size f_Rt_size_0 at hX
  unfold m_Md_size f_Md_size_0 at hY
  rw [nm_d, b4, b1_some] at hY
  rcases canHave (x := x) h1 h3 b5 a b with ⟨s, q, s1, s2, s3, rfl, rfl, s4, s5⟩ | ⟨s4, s5⟩
  · obtain ⟨v1, v2, v3, v4, v5⟩ := b7 s s1 0 w.length s3 (Nat.le_refl _)
    have hc := mO_lt (show s < 6 by omega) (show 0 < 12 by omega) hl
    have hcc := cO_lt (show s < 6 by omega) s3 hl
    have etree : m_Tt_treeOf (nI (cO s 0 w.length)) (nI q) = some (nI (2 * cO s 0 w.length + q)) := by
      unfold m_Tt_treeOf f_Tt_treeOf_0
      rw [l_2, pk_mul, nI_add]
    have hMT : MT μ' (2 * mO s 0 w.length + q) ((pf s 0 w.length).getD q []) := by
      rcases (show q = 0 ∨ q = 1 by omega) with rfl | rfl
      · exact v5.2.2.1
      · exact v5.2.2.2
    rw [s5, b1_some, if_pos (nI_pos' (by omega)), b1_some, ck_n (by omega) (by omega), nI_clamp (by omega), hMT.1] at hY
    have hsz : m_Ch_sizeOf χ' τ' (nI s) (nI q) (nI w.length) = some (nI ((pf s 0 w.length).getD q []).length) := by
      have hD12 := b1.2.1
      have hT := b1.2.2.2.2.2.2.1.2.1 D (Nat.le_refl _)
      have hp2 : Pair τ' C (VC V D) (cO s 0 w.length) (pf s 0 w.length) := v4.frame (fun t ht => ⟨⟨fun q => q.1, fun q => ⟨q, s, by omega, 0, w.length, s3, b2, ht⟩⟩, rfl, rfl⟩)
      unfold m_Ch_sizeOf f_Ch_sizeOf_0
      rw [← nI_0, p_cellOf (by omega) s3 hl, b1_some, etree, b1_some, p_sizeAt (by omega), b1_some]
      rcases hp2.get hT s2 with ⟨_, q2, q3, _⟩ | ⟨_, q2, q3⟩
      · rw [q3, List.getD_eq_getElem?_getD, q2]
        rfl
      · rw [q3, List.getD_eq_getElem?_getD, q2]
        rfl
    rw [s4, b1_some, if_neg (by decide), b3, b2_some, h3.1, hsz, b1_some] at hX
    exact ⟨_, _, _, _, hX, hY, b6⟩
  · rw [s4, b1_some, if_pos rfl] at hX
    rw [s5, b1_some, if_neg (by decide)] at hY
    exact ⟨_, _, _, _, hX, hY, b9⟩
/-- code -/
theorem c_code {N : Nat} (hN : NB ≤ N) {x γ χ τ ρ tp μ ll : Nat → Nat → Int32} (h : RlR x γ χ τ ρ tp μ) (a b c : Int32) : ∃ r χ' τ' ll' μ', m_Rt_code N 12 150 x γ χ τ ρ ll a b c = some (r, χ', τ', ll') ∧ m_Md_code N μ a b c = some (r, μ') ∧ RlR x γ χ' τ' ρ tp μ' := by
  have hNB : 70000 ≤ NB := by unfold NB; omega
  obtain ⟨G, w, t, h1, h2, h3, h4, h5, h6, h7, h8⟩ := h
  have hS := h1.1.1
  have hl := h3.2.1
  obtain ⟨χ', τ', μ', C, V, us, D, vf, pf, b1, b2, b3, b4, b5, b6, b7, b8, b9⟩ := both hN h1 h2 h3 h4 h5 h6 h7 h8
  obtain ⟨X, hX⟩ : ∃ X, X = m_Rt_code N 12 150 x γ χ τ ρ ll a b c := ⟨_, rfl⟩
  obtain ⟨Y, hY⟩ : ∃ Y, Y = m_Md_code N μ a b c := ⟨_, rfl⟩
  rw [← hX, ← hY]
  unfold m_Rt_code f_Rt_code_0 at hX
  unfold m_Md_code f_Md_code_0 at hY
  rw [nm_d, b4, b1_some] at hY
  rcases canHave (x := x) h1 h3 b5 a b with ⟨s, q, s1, s2, s3, rfl, rfl, s4, s5⟩ | ⟨s4, s5⟩
  · obtain ⟨v1, v2, v3, v4, v5⟩ := b7 s s1 0 w.length s3 (Nat.le_refl _)
    have hc := mO_lt (show s < 6 by omega) (show 0 < 12 by omega) hl
    have hMT : MT μ' (2 * mO s 0 w.length + q) ((pf s 0 w.length).getD q []) := by
      rcases (show q = 0 ∨ q = 1 by omega) with rfl | rfl
      · exact v5.2.2.1
      · exact v5.2.2.2
    obtain ⟨τ2, ll2, c1, c2, c3⟩ := b1.spell (N := N) (n := 150) (π := ll) (by omega) (by omega) (by omega) (show s < 6 by omega) s3 b2 v4 s2
    obtain ⟨p, ep⟩ : ∃ p, p = (pf s 0 w.length).getD q [] := ⟨_, rfl⟩
    rw [← ep] at hMT c2
    have hRl := b8 τ2 (b1.tau c1).r
    rw [s4, b1_some, if_neg (by decide), b3, b2_some, h3.1, c3, b2_some] at hX
    rw [s5, b1_some, if_neg (nI_pos (by omega))] at hY
    have hp150 := c2.2.1
    by_cases k0 : c < 0
    · rw [p_at_no c2.1 (Or.inl k0), b1_some] at hX
      rw [if_pos k0] at hY
      exact ⟨_, _, _, _, _, hX, hY, hRl⟩
    · obtain ⟨k, hk, rfl⟩ := nI_of k0
      rw [if_neg k0, ck_n (by omega) (by omega), nI_clamp (by omega), hMT.1] at hY
      by_cases kl : k < p.length
      · rw [c2.at (by omega) kl, b1_some] at hX
        rw [if_pos (of_eq_true (c_lt_t kl (by omega))), l_200, pk_mul, nI_add, ck_n (by omega) (by omega), nI_clamp (by omega), hMT.2.2 k kl] at hY
        exact ⟨_, _, _, _, _, hX, hY, hRl⟩
      · rw [p_at_no c2.1 (Or.inr (nI_le (by omega) hk)), b1_some] at hX
        rw [if_neg (of_eq_false (c_lt_f (by omega) hk))] at hY
        exact ⟨_, _, _, _, _, hX, hY, hRl⟩
  · rw [s4, b1_some, if_pos rfl] at hX
    rw [s5, b1_some, if_pos (by decide)] at hY
    exact ⟨_, _, _, _, _, hX, hY, b9⟩
