/-- the facts of a rule's parts that the offers need -/
def Pf (G : Gm) (r : Nat) (Q : Nat → Prop) (C : Nat → List Int32) (cs : Nat → Nat) (ys : Nat → List Int32) (h2 : Nat → Prop) : Prop :=
  ∀ k, k < (dv (gry G r)).length → 2 * cs k + 1 < 936 ∧ Q (2 * cs k) ∧ (h2 k → Q (2 * cs k + 1)) ∧
    Sy G (sX G ((dv (gry G r)).getD k 0)) (ys k) (C (2 * cs k)) ∧ (h2 k → Sy G (sX G ((dv (gry G r)).getD k 0)) (ys k) (C (2 * cs k + 1)) ∧ cl (C (2 * cs k)) (C (2 * cs k + 1)) ∧ (C (2 * cs k + 1)).length ≤ 12 * (ys k).length) ∧
    (C (2 * cs k)).length + 6 ≤ 12 * (ys k).length ∧
    ∀ e, Sy G (sX G ((dv (gry G r)).getD k 0)) (ys k) e → e = C (2 * cs k) ∨ (h2 k ∧ (e = C (2 * cs k + 1) ∨ cl (C (2 * cs k + 1)) e))
def OF (A : List Int32 → Prop) (r : Nat) (a b : Nat → List Int32) (h2 : Nat → Prop) (m k : Nat) (e : List Int32) : Prop :=
  A e ∨ e = nI r :: cat a m ∨ ∃ q, q < k ∧ h2 q ∧ e = nI r :: cat (swp a b q) m
theorem cat_swp {a b : Nat → List Int32} {g : Nat → Nat} {C : Nat → List Int32} {k m : Nat} (ha : ∀ q, q < m → a q = C (2 * g q)) (hb : b k = C (2 * g k + 1)) : cat (fun q => C (if q = k then 2 * g q + 1 else 2 * g q)) m = cat (swp a b k) m := by
  apply cat_congr
  intro q hq
  unfold swp
  by_cases c : q = k
  · subst c
    rw [if_pos rfl, if_pos rfl, hb]
  · rw [if_neg c, if_neg c, ha q hq]
theorem Ofr.fr {τ τ' : Nat → Nat → Int32} {C C' : Nat → List Int32} {V V' : Nat → Prop} {c : Nat} (h : Ofr τ τ' C C' V V' c) (χ : Nat → Nat → Int32) : Fr c χ τ C V χ τ' C' V' := ⟨fun _ _ => rfl, h.1⟩
theorem p_addTrees_120 {N : Nat} (hN : 151 ≤ N) {γ χ : Nat → Nat → Int32} {G : Gm} (hG : GrOK γ G) {Q : Nat → Prop} {C0 : Nat → List Int32} {r : Nat} (hr : r < gR G) {f t : Nat → Nat} {ys : Nat → List Int32} {h2 : Nat → Prop} {c : Nat} (hc : c < 468)
    (hsp : ∀ k, k < (dv (gry G r)).length → χ 5 k = nI (f k) ∧ χ 6 k = nI (t k) ∧ f k < t k ∧ t k ≤ 12)
    (hF : Pf G r Q C0 (fun k => cO (sX G ((dv (gry G r)).getD k 0)) (f k) (t k)) ys h2)
    (hQ : ∀ t, Q t → t ≠ 2 * c ∧ t ≠ 2 * c + 1) {A : List Int32 → Prop} (hd : ∀ d, Pr G (dv (gry G r)) ((List.range (dv (gry G r)).length).map ys) d → ¬ A (nI r :: d))
    (hb : 12 * (cat ys (dv (gry G r)).length).length + 12 ≤ 144 + 6 * (dv (gry G r)).length)
    (a b : Nat → List Int32) (ha : a = fun k => C0 (2 * cO (sX G ((dv (gry G r)).getD k 0)) (f k) (t k))) (hbb : b = fun k => C0 (2 * cO (sX G ((dv (gry G r)).getD k 0)) (f k) (t k) + 1))
    (kx : (Nat → Nat → Int32) → Option ((Nat → Nat → Int32) × (Nat → Nat → Int32))) :
    ∀ (d k n : Nat) (τ : Nat → Nat → Int32) (C : Nat → List Int32) (V : Nat → Prop) (p : List (List Int32)), k + d = (dv (gry G r)).length → d < n → FS τ C (ar G) V Q → Pair τ C V c p → Two (OF A r a b h2 (dv (gry G r)).length k) p → τ 2 936 = nI r → τ 3 936 = nI (dv (gry G r)).length → (∀ q, q < (dv (gry G r)).length → τ 4 (3744 + q) = nI (2 * cO (sX G ((dv (gry G r)).getD q 0)) (f q) (t q))) → (∀ t, Q t → C t = C0 t) → (∀ q, q < (dv (gry G r)).length → (¬ h2 q → τ 1 (2 * cO (sX G ((dv (gry G r)).getD q 0)) (f q) (t q) + 1) = 0)) →
      ∃ τ' C' V' p', FS τ' C' (ar G) V' Q ∧ Pair τ' C' V' c p' ∧ Two (OF A r a b h2 (dv (gry G r)).length (dv (gry G r)).length) p' ∧ Fr c χ τ C V χ τ' C' V' ∧ (∀ t, Q t → C' t = C0 t) ∧ l_Ch_addTrees_120 N χ γ (nI r) (nI c) (nI (dv (gry G r)).length) kx n τ (nI k) = kx τ' := by
  have h4 := dv_le4 hG.1 hr
  have hR := hG.1.2.2.1
  intro d
  induction d with
  | zero =>
    intro k n τ C V p hk hn hS hp hT d2 d3 d4 hC hz
    obtain ⟨m, rfl⟩ : ∃ m, n = m + 1 := ⟨n - 1, by omega⟩
    have e : k = (dv (gry G r)).length := by omega
    subst e
    refine ⟨τ, C, V, p, hS, hp, hT, Fr.refl _ _ _ _ _, hC, ?_⟩
    unfold l_Ch_addTrees_120 f_Ch_addTrees_120
    simp (disch := omega) only [nm_x, b1_some, b2_some, b3_some, b4_some, ck_n, nI_clamp, nI_add, nI_1, n_1add, pk_mul, n_sub, n_sub1, n_addm1, l_2, l_3, l_4, l_5, l_6, l_7, l_8, l_9, l_10, l_11, l_12, l_13, l_20, l_30, l_31, l_36, l_120, l_150, l_200, l_240, l_248, l_400, l_468, l_601, l_936, l_937, l_1000, l_1872, l_2600, l_3744, l_3748, l_374400, l_1000001, l_1000002, c_lt_t, c_lt_f, c_le_t, c_le_f, c_eq_t, c_eq_f, c_n0, c_0le, c_0lt, c_0lt_f, c_le0, c_le0_t, c_m1, c_m1l, c_ne0, c_eq0, c_eq1, c_ne1, c_lt1, c_1lt, c_1lt_f, m1_neg, if_true, if_false]
  | succ d ih =>
    intro k n τ C V p hk hn hS hp hT d2 d3 d4 hC hz
    obtain ⟨m, rfl⟩ : ∃ m, n = m + 1 := ⟨n - 1, by omega⟩
    obtain ⟨k5, k6, kf, kt⟩ := hsp k (by omega)
    obtain ⟨b9, bq, bq2, bs, bs2, bl, be⟩ := hF k (by omega)
    simp only at b9 bq bq2 bs bs2 bl be
    by_cases hh : h2 k
    · -- a second part
      have hqk := bq2 hh
      have hvk := hS.1.2 _ hqk
      obtain ⟨z, z0, z1, ez⟩ := hS.1.size hvk
      -- the draft with part k its second
      have hD1 : Dch τ (st2 τ 4 (3744 + k) (nI (2 * cO (sX G ((dv (gry G r)).getD k 0)) (f k) (t k) + 1))) := by
        refine ⟨fun q hq s _ => by rw [st2_aj _ _ _ _ hq], fun s hs => st2_k _ _ _ (by omega), _, h4, by rw [st2_aj _ _ _ _ (by decide)]; exact d3⟩
      generalize hτ1 : st2 τ 4 (3744 + k) (nI (2 * cO (sX G ((dv (gry G r)).getD k 0)) (f k) (t k) + 1)) = τ1 at *
      have hps : ∀ q, q < (dv (gry G r)).length → τ1 4 (3744 + q) = nI (if q = k then 2 * cO (sX G ((dv (gry G r)).getD q 0)) (f q) (t q) + 1 else 2 * cO (sX G ((dv (gry G r)).getD q 0)) (f q) (t q)) := by
        intro q hq
        rw [← hτ1]
        by_cases e : q = k
        · subst e
          rw [st2_s, if_pos rfl]
        · rw [st2_k _ _ _ (by omega), if_neg e]
          exact d4 q hq
      have hcat : (((List.range (dv (gry G r)).length).map (fun q => if q = k then 2 * cO (sX G ((dv (gry G r)).getD q 0)) (f q) (t q) + 1 else 2 * cO (sX G ((dv (gry G r)).getD q 0)) (f q) (t q))).map C).flatten = cat (swp a b k) (dv (gry G r)).length := by
        rw [map_map_flat]
        apply cat_swp (g := fun q => cO (sX G ((dv (gry G r)).getD q 0)) (f q) (t q)) (C := C)
        · intro q hq
          rw [ha]
          exact (hC _ (hF q hq).2.1).symm
        · rw [hbb]
          exact (hC _ hqk).symm
      have hmem : ∀ q, q < (dv (gry G r)).length → Sy G (sX G ((dv (gry G r)).getD q 0)) (ys q) (swp a b k q) := by
        intro q hq
        unfold swp
        by_cases e : q = k
        · subst e
          rw [if_pos rfl, hbb]
          exact (bs2 hh).1
        · rw [if_neg e, ha]
          exact (hF q hq).2.2.2.1
      have hmema : ∀ q, q < (dv (gry G r)).length → Sy G (sX G ((dv (gry G r)).getD q 0)) (ys q) (a q) := by
        intro q hq
        rw [ha]
        exact (hF q hq).2.2.2.1
      have hPr : Pr G (dv (gry G r)) ((List.range (dv (gry G r)).length).map ys) (cat (swp a b k) (dv (gry G r)).length) := by
        refine (Pr_cat (dv (gry G r)).length _ _ _ rfl (by simp)).mpr ⟨swp a b k, rfl, fun q hq => ?_⟩
        rw [range_getD ys hq]
        exact hmem q hq
      have hlen : (nI r :: cat (swp a b k) (dv (gry G r)).length).length ≤ 150 := by
        have := cat_len (F := swp a b k) (Y := ys) (j := k) (dv (gry G r)).length (fun q hq => by
          unfold swp
          by_cases e : q = k
          · subst e
            rw [if_pos rfl, if_pos rfl, hbb]
            exact Nat.add_le_add_right (bs2 hh).2.2 6
          · rw [if_neg e, if_neg e, ha]
            exact (hF q hq).2.2.2.2.2.1)
        rw [if_pos (by omega)] at this
        simp only [List.length_cons]
        omega
      have hnot : ¬ OF A r a b h2 (dv (gry G r)).length k (nI r :: cat (swp a b k) (dv (gry G r)).length) := by
        rintro (q | q | ⟨q, q1, q2, q3⟩)
        · exact hd _ hPr q
        · injection q with _ q
          have := (cat_pre hR (dv (gry G r)).length [] [] hmem hmema (by rw [q])).1 k (by omega)
          unfold swp at this
          rw [if_pos rfl, ha, hbb] at this
          exact cl_ne (bs2 hh).2.1 this.1.symm
        · injection q3 with _ q3
          have hmemq : ∀ z, z < (dv (gry G r)).length → Sy G (sX G ((dv (gry G r)).getD z 0)) (ys z) (swp a b q z) := by
            intro z hz
            unfold swp
            by_cases e : z = q
            · subst e
              rw [if_pos rfl, hbb]
              exact ((hF z hz).2.2.2.2.1 q2).1
            · rw [if_neg e, ha]
              exact (hF z hz).2.2.2.1
          have := (cat_pre hR (dv (gry G r)).length [] [] hmem hmemq (by rw [q3])).1 k (by omega)
          unfold swp at this
          rw [if_pos rfl, if_neg (by omega), ha, hbb] at this
          exact cl_ne (bs2 hh).2.1 this.1.symm
      have hp1 : Pair τ1 C V c p := hp.frame (fun s hs => ⟨Iff.rfl, rfl, hD1.1 1 (by decide) s (by omega)⟩)
      obtain ⟨τ2, C2, V2, p2, o1, o2, o3, o4, o5, o6, o7, o8⟩ := p_offer hN (hS.draft hD1).1 (hS.draft hD1).2.1 (hS.draft hD1).2.2 (hd := nI r) (ps := (List.range (dv (gry G r)).length).map (fun q => if q = k then 2 * cO (sX G ((dv (gry G r)).getD q 0)) (f q) (t q) + 1 else 2 * cO (sX G ((dv (gry G r)).getD q 0)) (f q) (t q)))
        ⟨by rw [ar_r (by omega)]; simp, by simpa using h4, by rw [← hτ1, st2_aj _ _ _ _ (by decide)]; exact d2, by rw [← hτ1, st2_aj _ _ _ _ (by decide), d3]; simp, fun q hq => by
          simp only [List.length_map, List.length_range] at hq
          rw [range_getD _ hq]
          refine ⟨hps q hq, ?_⟩
          by_cases e : q = k
          · subst e
            rw [if_pos rfl]
            exact hqk
          · rw [if_neg e]
            exact (hF q hq).2.1⟩ hc hp1 (fun s hs he => by
          have := hQ s hs
          rcases he with he | he
          · exact absurd he this.1
          · exact absurd he this.2) (by
          rw [hcat]
          intro hin
          exact hnot (hT.2.1 _ hin))
      rw [hcat] at o8
      rcases o8 with ⟨_, hins⟩ | ⟨o8, _⟩
      · have hT2 : Two (OF A r a b h2 (dv (gry G r)).length (k + 1)) p2 := by
          refine (hins.two hT).congr (fun e => ?_)
          constructor
          · rintro ((q | q | ⟨q, q1, q2, q3⟩) | q)
            · exact Or.inl q
            · exact Or.inr (Or.inl q)
            · exact Or.inr (Or.inr ⟨q, by omega, q2, q3⟩)
            · exact Or.inr (Or.inr ⟨k, by omega, hh, q⟩)
          · rintro (q | q | ⟨q, q1, q2, q3⟩)
            · exact Or.inl (Or.inl q)
            · exact Or.inl (Or.inr (Or.inl q))
            · by_cases e : q = k
              · subst e
                exact Or.inr q3
              · exact Or.inl (Or.inr (Or.inr ⟨q, by omega, q2, q3⟩))
        obtain ⟨u1, u2, u3, u4⟩ := o6
        have hD2 : Dch τ2 (st2 τ2 4 (3744 + k) (nI (2 * cO (sX G ((dv (gry G r)).getD k 0)) (f k) (t k)))) := by
          refine ⟨fun q hq s _ => by rw [st2_aj _ _ _ _ hq], fun s hs => st2_k _ _ _ (by omega), _, h4, ?_⟩
          rw [st2_aj _ _ _ _ (by decide), u3, ← hτ1, st2_aj _ _ _ _ (by decide)]
          exact d3
        generalize hτ3 : st2 τ2 4 (3744 + k) (nI (2 * cO (sX G ((dv (gry G r)).getD k 0)) (f k) (t k))) = τ3 at *
        obtain ⟨τ', C', V', p', g1, g2, g3, g4, g5, g6⟩ := ih (k + 1) m τ3 C2 V2 p2 (by omega) (by omega) (FS.draft ⟨o2, o3, o4⟩ hD2) (o5.frame (fun s hs => ⟨Iff.rfl, rfl, hD2.1 1 (by decide) s (by omega)⟩)) hT2
          (by rw [← hτ3, st2_aj _ _ _ _ (by decide), u2, ← hτ1, st2_aj _ _ _ _ (by decide)]; exact d2)
          (by rw [← hτ3, st2_aj _ _ _ _ (by decide), u3, ← hτ1, st2_aj _ _ _ _ (by decide)]; exact d3)
          (fun q hq => by
            rw [← hτ3]
            by_cases e : q = k
            · subst e
              rw [st2_s]
            · rw [st2_k _ _ _ (by omega), u4, hps q hq, if_neg e])
          (fun s hs => by rw [o7 s hs]; exact hC s hs)
          (fun q hq hn => by
            obtain ⟨c9, cq, _⟩ := hF q hq
            simp only at c9 cq
            have hne : 2 * cO (sX G ((dv (gry G r)).getD q 0)) (f q) (t q) + 1 ≠ 2 * c + 1 := fun e => (hQ _ cq).1 (by omega)
            rw [hD2.1 1 (by decide) _ c9, (u1 _ c9 (by omega) hne).2.2.1, hD1.1 1 (by decide) _ c9]
            exact hz q hq hn)
        refine ⟨τ', C', V', p', g1, g2, g3, ?_, g5, ?_⟩
        · refine Fr.trans (Fr.trans ⟨fun _ _ => rfl, fun s s1 s2 s3 => ⟨Iff.rfl, rfl, hD1.sam s1⟩⟩ (Ofr.fr ⟨u1, u2, u3, u4⟩ χ)) (Fr.trans ⟨fun _ _ => rfl, fun s s1 s2 s3 => ⟨Iff.rfl, rfl, hD2.sam s1⟩⟩ g4)
        · unfold l_Ch_addTrees_120 f_Ch_addTrees_120
          rw [p_partCell hG hr (by omega) k5 k6 kf kt]
          simp (disch := omega) only [nm_x, b1_some, b2_some, b3_some, b4_some, ck_n, nI_clamp, nI_add, nI_1, n_1add, pk_mul, n_sub, n_sub1, n_addm1, l_2, l_3, l_4, l_5, l_6, l_7, l_8, l_9, l_10, l_11, l_12, l_13, l_20, l_30, l_31, l_36, l_120, l_150, l_200, l_240, l_248, l_400, l_468, l_601, l_936, l_937, l_1000, l_1872, l_2600, l_3744, l_3748, l_374400, l_1000001, l_1000002, c_lt_t, c_lt_f, c_le_t, c_le_f, c_eq_t, c_eq_f, c_n0, c_0le, c_0lt, c_0lt_f, c_le0, c_le0_t, c_m1, c_m1l, c_ne0, c_eq0, c_eq1, c_ne1, c_lt1, c_1lt, c_1lt_f, m1_neg, if_true, if_false, p_treeOf0, p_treeOf1, p_sizeAt (show 2 * cO (sX G ((dv (gry G r)).getD k 0)) (f k) (t k) + 1 ≤ 936 by omega), ez, p_setDraftPart (show k < 4 by omega) b9, hτ1, o1, p_setDraftPart (show k < 4 by omega) (show 2 * cO (sX G ((dv (gry G r)).getD k 0)) (f k) (t k) < 936 by omega), hτ3]
          exact g6
      · omega
    · -- no second part
      have hT2 : Two (OF A r a b h2 (dv (gry G r)).length (k + 1)) p := by
        refine hT.congr (fun e => ?_)
        constructor
        · rintro (q | q | ⟨q, q1, q2, q3⟩)
          · exact Or.inl q
          · exact Or.inr (Or.inl q)
          · exact Or.inr (Or.inr ⟨q, by omega, q2, q3⟩)
        · rintro (q | q | ⟨q, q1, q2, q3⟩)
          · exact Or.inl q
          · exact Or.inr (Or.inl q)
          · by_cases e : q = k
            · exact absurd (e ▸ q2) hh
            · exact Or.inr (Or.inr ⟨q, by omega, q2, q3⟩)
      obtain ⟨τ', C', V', p', g1, g2, g3, g4, g5, g6⟩ := ih (k + 1) m τ C V p (by omega) (by omega) hS hp hT2 d2 d3 d4 hC hz
      refine ⟨τ', C', V', p', g1, g2, g3, g4, g5, ?_⟩
      unfold l_Ch_addTrees_120 f_Ch_addTrees_120
      rw [p_partCell hG hr (by omega) k5 k6 kf kt]
      have z0 : (0 : Int32) ≤ 0 := by decide
      simp (disch := omega) only [nm_x, b1_some, b2_some, b3_some, b4_some, ck_n, nI_clamp, nI_add, nI_1, n_1add, pk_mul, n_sub, n_sub1, n_addm1, l_2, l_3, l_4, l_5, l_6, l_7, l_8, l_9, l_10, l_11, l_12, l_13, l_20, l_30, l_31, l_36, l_120, l_150, l_200, l_240, l_248, l_400, l_468, l_601, l_936, l_937, l_1000, l_1872, l_2600, l_3744, l_3748, l_374400, l_1000001, l_1000002, c_lt_t, c_lt_f, c_le_t, c_le_f, c_eq_t, c_eq_f, c_n0, c_0le, c_0lt, c_0lt_f, c_le0, c_le0_t, c_m1, c_m1l, c_ne0, c_eq0, c_eq1, c_ne1, c_lt1, c_1lt, c_1lt_f, m1_neg, if_true, if_false, p_treeOf0, p_treeOf1, p_sizeAt (show 2 * cO (sX G ((dv (gry G r)).getD k 0)) (f k) (t k) + 1 ≤ 936 by omega), hz k (by omega) hh, if_pos z0]
      exact g6
