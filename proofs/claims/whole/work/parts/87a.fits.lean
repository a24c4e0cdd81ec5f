/-! codes read, in the model: awaited sorts in array 19 -/
def MdT (μ : Nat → Nat → Int32) (t : List Int32) : Prop := μ 0 12 = nI t.length ∧ t.length ≤ 200 ∧ ∀ k, k < t.length → μ 6 k = t.getD k 0
theorem q_look {μ : Nat → Nat → Int32} {G : Gm} (h : MdG μ G) (c : Int32) {s : Nat} (hs : s < 6) : (¬ hasC G c ∧ m_Md_look μ c (nI s) = some 2) ∨ (hasC G c ∧ sC G c ≠ s ∧ m_Md_look μ c (nI s) = some 3) ∨ (hasC G c ∧ sC G c = s ∧ m_Md_look μ c (nI s) = some 0) := by
  have h1 := h.1.2.2.1
  have h2 := h.1.2.1
  have h6 := h.1.1
  unfold m_Md_look f_Md_look_0
  rw [h.2.2.2.1, h.2.2.1]
  by_cases c3 : c < 0
  · obtain ⟨v, hv, ev⟩ := neg_vS c3
    rw [if_neg (Int32.not_le.mpr c3)]
    by_cases c1 : (-nI (gV G)) ≤ c
    · have d1 := Int32.le_iff_toInt_le.mp c1
      rw [sb_negT (show gV G < 2 ^ 31 by omega)] at d1
      have ec : c = vS v := by
        apply Int32.toInt_inj.mp
        rw [vS_t (by omega)]
        exact ev
      have hvG : v < gV G := by omega
      have hvs := h.1.2.2.2.1 v hvG
      rw [if_pos c1, ec, vS_back (by omega), ck_n (by omega) (by omega), nI_clamp (by omega), h.2.2.2.2.1 v hvG, sC_n (by omega)]
      by_cases e : gvs G v = s
      · exact Or.inr (Or.inr ⟨Or.inr ⟨v, hvG, rfl⟩, e, by rw [if_pos (by rw [e])]⟩)
      · exact Or.inr (Or.inl ⟨Or.inr ⟨v, hvG, rfl⟩, e, by rw [if_neg (fun q => e (nI_inj (by omega) (by omega) q))]⟩)
    · rw [if_neg c1]
      refine Or.inl ⟨?_, rfl⟩
      rintro (⟨r, hr, rfl⟩ | ⟨v', hv', rfl⟩)
      · exact absurd c3 (nI_pos (by omega))
      · exact c1 (Int32.not_lt.mp (neg_nI hv' h2))
  · obtain ⟨j, hj, rfl⟩ := nI_of c3
    rw [if_pos (nI_pos' (by omega))]
    by_cases c2 : j < gR G
    · have hrs := (h.1.2.2.2.2 j c2).1
      rw [if_pos (of_eq_true (c_lt_t c2 (by omega))), ck_n (by omega) (by omega), nI_clamp (by omega), (h.2.2.2.2.2 j c2).1, sC_r (by omega)]
      by_cases e : grs G j = s
      · exact Or.inr (Or.inr ⟨Or.inl ⟨j, c2, rfl⟩, e, by rw [if_pos (by rw [e])]⟩)
      · exact Or.inr (Or.inl ⟨Or.inl ⟨j, c2, rfl⟩, e, by rw [if_neg (fun q => e (nI_inj (by omega) (by omega) q))]⟩)
    · rw [if_neg (of_eq_false (c_lt_f (by omega) hj))]
      refine Or.inl ⟨?_, rfl⟩
      rintro (⟨r, hr, e⟩ | ⟨v', hv', e⟩)
      · have := nI_inj hj (by omega) e
        omega
      · apply c3
        rw [e]
        exact vS_neg (by omega)
theorem dv_at {l : List Int32} {k : Nat} (hk : k < (vl l).length) (h : nw (vl l) k) : (dv l).drop (bd (vl l) k) = (vl l).getD k 0 :: (dv l).drop (bd (vl l) (k + 1)) := by
  have hn := bd_new hk ⟨vl_neg (getD_mem hk), h⟩
  have hle := bd_le (vl l) (k + 1)
  rw [← dv_vl] at hn hle
  rw [hn.1] at hle
  rw [drop_getD (show bd (vl l) k < (dv l).length by omega), hn.1]
  congr 1
  rw [← hn.2, List.getD_eq_getElem?_getD, List.getElem?_eq_getElem (by rw [hn.2]; omega)]
  exact List.getElem_idxOf _
theorem q_fits88 {N : Nat} (hN : 9 ≤ N) {G : Gm} {r i : Nat} (hr : r < gR G) (hi : i < 200) {q : List Nat} (hq : q.length + (dv (gry G r)).length ≤ 1000) (kx : (Nat → Nat → Int32) → Int32 → Option (Int32 × (Nat → Nat → Int32))) : ∀ (j n : Nat) (μ : Nat → Nat → Int32), j ≤ (vl (gry G r)).length → j < n → MdG μ G → μ 6 i = nI r → StK μ 19 (q ++ (((dv (gry G r)).drop (bd (vl (gry G r)) j)).map (sX G)).reverse) →
    ∃ μ', (∀ c, c ≠ 19 → μ' c = μ c) ∧ StK μ' 19 (q ++ (slS G (nI r)).reverse) ∧ l_Md_fits_88 N (nI i) kx n μ (nI (q.length + ((dv (gry G r)).length - bd (vl (gry G r)) j))) (dn j) = kx μ' (nI (q.length + (slS G (nI r)).length)) := by
  intro j
  induction j with
  | zero =>
    intro n μ hj hn hG h6 hs
    obtain ⟨n, rfl⟩ : ∃ m, n = m + 1 := ⟨n - 1, by omega⟩
    have hR := hG.1.2.2.1
    have e0 : bd (vl (gry G r)) 0 = 0 := by simp [bd, dvs]
    rw [e0, List.drop_zero] at hs
    refine ⟨μ, fun _ _ => rfl, by rw [sl_r (by omega)]; exact hs, ?_⟩
    unfold l_Md_fits_88 f_Md_fits_88
    rw [if_pos (of_eq_true dn_neg), e0, sl_r (by omega), List.length_map, Nat.sub_zero]
  | succ j ih =>
    intro n μ hj hn hG h6 hs
    obtain ⟨n, rfl⟩ : ∃ m, n = m + 1 := ⟨n - 1, by omega⟩
    have hR := hG.1.2.2.1
    have hV := hG.1.2.1
    have hMR := (hG.2.2.2.2.2 r hr).2
    have hjl : j < (vl (gry G r)).length := by omega
    have h4 := vl_le4 hG.1 hr
    have hle := bd_le (vl (gry G r)) (j + 1)
    rw [← dv_vl] at hle
    rw [dn_s]
    rcases q_isFirst hN hMR hjl with ⟨a1, a2⟩ | ⟨a1, a2⟩
    · have hn1 := (bd_new hjl ⟨vl_neg (getD_mem hjl), a1⟩).1
      have hx0 : (vl (gry G r)).getD j 0 < 0 := vl_neg (getD_mem hjl)
      have hxm : (vl (gry G r)).getD j 0 ∈ gry G r := (List.mem_filter.mp (getD_mem hjl)).1
      obtain ⟨v, hv, ev⟩ : ∃ v, v < gV G ∧ (vl (gry G r)).getD j 0 = vS v := by
        rcases (hG.1.2.2.2.2 r hr).2.2.2.1 _ hxm with ⟨c, hc, e⟩ | h
        · rw [e] at hx0
          exact absurd hx0 (nI_pos (by omega))
        · exact h
      have esx : sX G ((vl (gry G r)).getD j 0) = gvs G v := by
        unfold sX
        rw [ev, vI_vS (by omega)]
      have hlen : (q ++ (((dv (gry G r)).drop (bd (vl (gry G r)) (j + 1))).map (sX G)).reverse).length = q.length + ((dv (gry G r)).length - bd (vl (gry G r)) (j + 1)) := by
        rw [List.length_append, List.length_reverse, List.length_map, List.length_drop]
      have hpush := hs.push (gvs G v)
      rw [hlen] at hpush
      obtain ⟨μ', g1, g2, g3⟩ := ih n (st2 μ 19 (q.length + ((dv (gry G r)).length - bd (vl (gry G r)) (j + 1))) (nI (gvs G v))) (by omega) (by omega) (hG.fq (fun z _ => by rw [st2_aj _ _ _ _ (by decide)]) (fun b hb => st2_a _ _ _ (by omega))) (by rw [st2_aj _ _ _ _ (by decide)]; exact h6) (by
        rw [dv_at hjl a1, List.map_cons, List.reverse_cons, esx, ← List.append_assoc]
        exact hpush)
      refine ⟨μ', fun c hc => by rw [g1 c hc, st2_a _ _ _ hc], g2, ?_⟩
      unfold l_Md_fits_88 f_Md_fits_88
      rw [if_neg (nI_pos (by omega)), ck_n hi (by omega), nI_clamp (by omega), h6, a2, b1_some, if_neg (by decide), ck_n hi (by omega), q_varAt hN hMR hjl, b1_some, ev, vS_back (by omega), ck_n (by omega) (by omega), ck_n (by omega) (by omega), nI_clamp (by omega), nI_clamp (by omega), hG.2.2.2.2.1 v hv, nm_d, nI_1, nm_d, dn_m, nm_d]
      rw [show q.length + ((dv (gry G r)).length - bd (vl (gry G r)) (j + 1)) + 1 = q.length + ((dv (gry G r)).length - bd (vl (gry G r)) j) by omega]
      exact g3
    · have hn1 := bd_same hjl (fun q => a1 q.2)
      rw [hn1] at hs ⊢
      obtain ⟨μ', g1, g2, g3⟩ := ih n μ (by omega) (by omega) hG h6 hs
      refine ⟨μ', g1, g2, ?_⟩
      unfold l_Md_fits_88 f_Md_fits_88
      rw [if_neg (nI_pos (by omega)), ck_n hi (by omega), nI_clamp (by omega), h6, a2, b1_some, if_pos rfl, dn_m, nm_d]
      exact g3
theorem q_fits11 {N : Nat} (hN : 9 ≤ N) {G : Gm} {cs : List Int32} (hl : cs.length ≤ 200) :
    ∀ (d i f : Nat) (μ : Nat → Nat → Int32) (q : List Nat), i + d = cs.length → d < f → MdG μ G → MdT μ cs → StK μ 19 q → q.length ≤ 1 + 3 * i → (∀ s, s ∈ q → s < 6) →
      ∃ μ' v pl, rdr G (cs.drop i) i q.reverse v pl ∧ (∀ c, c ≠ 0 → c ≠ 19 → μ' c = μ c) ∧ (∀ k, k ≠ 13 → μ' 0 k = μ 0 k) ∧ μ' 0 13 = (if v = 0 then -1 else nI pl) ∧ l_Md_fits_11 N (fun s_self => f_Md_fits_28 N s_self) (fun s_self v4 => f_Md_fits_55 N s_self v4) (fun s_self v2 => f_Md_fits_148 N s_self v2) f μ (nI q.length) (nI i) = some (nI v, μ') := by
  intro d
  induction d with
  | zero =>
    intro i f μ q hi hf hG hT hs hq h6
    obtain ⟨f, rfl⟩ : ∃ m, f = m + 1 := ⟨f - 1, by omega⟩
    have : i = cs.length := by omega
    subst this
    rw [List.drop_length]
    obtain ⟨X, hX⟩ : ∃ X, X = l_Md_fits_11 N (fun s_self => f_Md_fits_28 N s_self) (fun s_self v4 => f_Md_fits_55 N s_self v4) (fun s_self v2 => f_Md_fits_148 N s_self v2) (f + 1) μ (nI q.length) (nI cs.length) := ⟨_, rfl⟩
    rw [← hX]
    have step : X = f_Md_fits_148 N μ (nI q.length) := by
      rw [hX]
      unfold l_Md_fits_11 f_Md_fits_11
      rw [hT.1, if_pos (nI_le (Nat.le_refl _) (by omega))]
    unfold f_Md_fits_148 at step
    by_cases e : q = []
    · refine ⟨_, 0, cs.length, Or.inl ⟨by rw [e]; rfl, rfl, rfl⟩, fun c h0 _ => st2_a _ _ _ h0, fun k hk => st2_k _ _ _ hk, st2_s _ _ _ _, ?_⟩
      rw [step, e, List.length_nil, if_pos (of_eq_true (c_le0_t rfl)), nm_d, if_pos (of_eq_true (c_le0_t rfl)), if_pos rfl]
      rfl
    · refine ⟨_, 1, cs.length, Or.inr ⟨by simpa using e, rfl, rfl⟩, fun c h0 _ => st2_a _ _ _ h0, fun k hk => st2_k _ _ _ hk, st2_s _ _ _ _, ?_⟩
      have : 0 < q.length := List.length_pos_iff.mpr e
      rw [step, if_neg (of_eq_false (c_le0 this (by omega))), nm_d, if_neg (of_eq_false (c_le0 this (by omega))), hT.1, if_neg (by decide)]
      rfl
  | succ d ih =>
    intro i f μ q hi hf hG hT hs hq h6
    obtain ⟨f, rfl⟩ : ∃ m, f = m + 1 := ⟨f - 1, by omega⟩
    have hR := hG.1.2.2.1
    have hV := hG.1.2.1
    have hil : i < cs.length := by omega
    have hdr : cs.drop i = cs.getD i 0 :: cs.drop (i + 1) := drop_getD hil
    obtain ⟨X, hX⟩ : ∃ X, X = l_Md_fits_11 N (fun s_self => f_Md_fits_28 N s_self) (fun s_self v4 => f_Md_fits_55 N s_self v4) (fun s_self v2 => f_Md_fits_148 N s_self v2) (f + 1) μ (nI q.length) (nI i) := ⟨_, rfl⟩
    rw [← hX]
    have step : X = f_Md_fits_11 N (l_Md_fits_11 N (fun s_self => f_Md_fits_28 N s_self) (fun s_self v4 => f_Md_fits_55 N s_self v4) (fun s_self v2 => f_Md_fits_148 N s_self v2) f) (fun s_self => f_Md_fits_28 N s_self) (fun s_self v4 => f_Md_fits_55 N s_self v4) (fun s_self v2 => f_Md_fits_148 N s_self v2) μ (nI q.length) (nI i) := hX
    unfold f_Md_fits_11 at step
    rw [hT.1, if_neg (nI_ge hil (by omega)), nm_d] at step
    rw [hdr]
    have hG1 : MdG (st2 μ 0 13 (nI i)) G := hG.fq (fun z hz => st2_k _ _ _ (by omega)) (fun b hb => st2_a _ _ _ (by omega))
    have e6 : st2 μ 0 13 (nI i) 6 i = cs.getD i 0 := by rw [st2_aj _ _ _ _ (by decide)]; exact hT.2.2 i hil
    rcases q_cases q with rfl | ⟨q, s, rfl⟩
    · rw [List.length_nil, if_pos nI_0] at step
      exact ⟨_, 4, i, ⟨rfl, rfl⟩, fun c h0 _ => st2_a _ _ _ h0, fun k hk => st2_k _ _ _ hk, st2_s _ _ _ _, by rw [step]; rfl⟩
    · have hql : (q ++ [s]).length = q.length + 1 := by simp
      rw [hql] at hq
      rw [hql, if_neg (nI_ne0 (by omega) (by omega)), ck_n (by omega) (by omega), n_sub1 (by omega), show q.length + 1 - 1 = q.length by omega, ck_n (by omega) (by omega), nI_clamp (by omega), nI_clamp (by omega), e6, n_addm1 (by omega), show q.length + 1 - 1 = q.length by omega] at step
      rw [List.reverse_append, List.reverse_cons, List.reverse_nil, List.nil_append, List.singleton_append]
      have top : st2 μ 0 13 (nI i) 19 q.length = nI s := by
        rw [st2_aj _ _ _ _ (by decide)]
        exact hs.top
      have hs6 := h6 s (by simp)
      rw [top] at step
      rcases q_look hG1 (cs.getD i 0) hs6 with ⟨hc, e⟩ | ⟨hc, es, e⟩ | ⟨hc, es, e⟩
      · rw [e, b1_some, if_neg (by decide)] at step
        exact ⟨_, 2, i, Or.inl ⟨hc, rfl, rfl⟩, fun c h0 _ => st2_a _ _ _ h0, fun k hk => st2_k _ _ _ hk, st2_s _ _ _ _, by rw [step]; rfl⟩
      · rw [e, b1_some, if_neg (by decide)] at step
        exact ⟨_, 3, i, Or.inr (Or.inl ⟨hc, es, rfl, rfl⟩), fun c h0 _ => st2_a _ _ _ h0, fun k hk => st2_k _ _ _ hk, st2_s _ _ _ _, by rw [step]; rfl⟩
      · rw [e, b1_some, if_pos (by decide), nm_d, ck_n (by omega) (by omega)] at step
        have hsl := sl_len hG.1 hc
        have hst : StK (st2 μ 0 13 (nI i)) 19 q := by
          intro k hk
          rw [st2_aj _ _ _ _ (by decide)]
          exact hs.pop k hk
        have hsort : ∀ x, x ∈ q ++ (slS G (cs.getD i 0)).reverse → x < 6 := fun x hx => by
            rcases List.mem_append.mp hx with hx | hx
            · exact h6 x (by simp [hx])
            · rw [List.mem_reverse] at hx
              rcases hc with ⟨r, hr, er⟩ | ⟨v, hv, er⟩
              · rw [er, sl_r (by omega)] at hx
                obtain ⟨z, hz, rfl⟩ := List.mem_map.mp hx
                obtain ⟨q1, q2⟩ := dv_mem.mp hz
                exact okSym_sX6 hG.1 ((hG.1.2.2.2.2 r hr).2.2.2.1 z q1) q2
              · rw [er, sl_n (vS_neg (by omega))] at hx
                simp at hx
        have push : ∃ μ1, (∀ c, c ≠ 19 → μ1 c = st2 μ 0 13 (nI i) c) ∧ StK μ1 19 (q ++ (slS G (cs.getD i 0)).reverse) ∧ X = l_Md_fits_11 N (fun s_self => f_Md_fits_28 N s_self) (fun s_self v4 => f_Md_fits_55 N s_self v4) (fun s_self v2 => f_Md_fits_148 N s_self v2) f μ1 (nI (q.length + (slS G (cs.getD i 0)).length)) (nI (i + 1)) := by
          have hc' := hc
          rcases hc' with ⟨r, hr, er⟩ | ⟨v, hv, er⟩
          · rw [er] at step hsl ⊢
            have hMR := (hG1.2.2.2.2.2 r hr).2
            have e4 := vl_le4 hG.1 hr
            have efull : bd (vl (gry G r)) (vl (gry G r)).length = (dv (gry G r)).length := by rw [bd_full, ← dv_vl]
            obtain ⟨μ1, a1, a2, a3⟩ := q_fits88 hN hr (show i < 200 by omega) (q := q) (by rw [sl_r (by omega), List.length_map] at hsl; omega) (fun s_self v2 => f_Md_fits_142 N (l_Md_fits_11 N (fun s_self => f_Md_fits_28 N s_self) (fun s_self v4 => f_Md_fits_55 N s_self v4) (fun s_self v2 => f_Md_fits_148 N s_self v2) f) (fun s_self => f_Md_fits_28 N s_self) (fun s_self v4 => f_Md_fits_55 N s_self v4) (fun s_self v2 => f_Md_fits_148 N s_self v2) s_self v2 (nI i)) (vl (gry G r)).length N (st2 μ 0 13 (nI i)) (Nat.le_refl _) (by omega) hG1 (by rw [e6, er]) (by
              rw [efull, List.drop_length]
              simpa using hst)
            rw [if_pos (nI_pos' (by omega)), ck_n (by omega) (by omega), q_vars hN hMR, b1_some, nm_d] at step
            rw [efull, Nat.sub_self, Nat.add_zero] at a3
            unfold dn at a3
            rw [a3] at step
            unfold f_Md_fits_142 at step
            rw [nm_d, nI_1] at step
            exact ⟨μ1, a1, a2, step⟩
          · have hneg : vS v < 0 := vS_neg (by omega)
            rw [er] at step ⊢
            rw [sl_n hneg]
            rw [if_neg (Int32.not_le.mpr hneg)] at step
            refine ⟨st2 μ 0 13 (nI i), fun _ _ => rfl, by simpa using hst, ?_⟩
            obtain ⟨N', rfl⟩ : ∃ m, N = m + 1 := ⟨N - 1, by omega⟩
            rw [step]
            unfold l_Md_fits_88 f_Md_fits_88
            rw [if_pos (by decide)]
            rw [List.length_nil, Nat.add_zero, ← nI_1]
            rfl
        obtain ⟨μ1, a1, a2, a3⟩ := push
        have hlen : (q ++ (slS G (cs.getD i 0)).reverse).length = q.length + (slS G (cs.getD i 0)).length := by rw [List.length_append, List.length_reverse]
        obtain ⟨μ', v, pl, b1, b2, b3, b4, b5⟩ := ih (i + 1) f μ1 (q ++ (slS G (cs.getD i 0)).reverse) (by omega) (by omega) (hG1.fq (fun z hz => by rw [a1 0 (by decide)]) (fun b hb => a1 b (by omega))) ⟨by rw [a1 0 (by decide), st2_k _ _ _ (by decide)]; exact hT.1, hl, fun k hk => by rw [a1 6 (by decide), st2_a _ _ _ (by decide)]; exact hT.2.2 k hk⟩ a2 (by rw [hlen]; omega) hsort
        refine ⟨μ', v, pl, Or.inr (Or.inr ⟨hc, es, ?_⟩), fun c h0 h1 => by rw [b2 c h0 h1, a1 c h1, st2_a _ _ _ h0], fun k hk => by rw [b3 k hk, a1 0 (by decide), st2_k _ _ _ hk], b4, ?_⟩
        · rw [List.reverse_append, List.reverse_reverse] at b1
          exact b1
        · rw [a3]
          rw [hlen] at b5
          exact b5
theorem q_fits {N : Nat} (hN : 202 ≤ N) {G : Gm} {μ : Nat → Nat → Int32} {cs : List Int32} (hG : MdG μ G) (hT : MdT μ cs) {s : Nat} (hs : s < 6) :
    ∃ μ' v pl, rdr G cs 0 [s] v pl ∧ (∀ c, c ≠ 0 → c ≠ 19 → μ' c = μ c) ∧ (∀ k, k ≠ 13 → μ' 0 k = μ 0 k) ∧ μ' 0 13 = (if v = 0 then -1 else nI pl) ∧ m_Md_fits N μ (nI s) = some (nI v, μ') := by
  have hl := hT.2.1
  have hst : StK (st2 μ 19 0 (nI s)) 19 [s] := by
    intro k hk
    have : k = 0 := by simpa using hk
    subst this
    exact st2_s _ _ _ _
  obtain ⟨μ', v, pl, a1, a2, a3, a4, a5⟩ := q_fits11 (N := N) (by omega) hl cs.length 0 N (st2 μ 19 0 (nI s)) [s] (by omega) (by omega) (hG.fq (fun z hz => by rw [st2_aj _ _ _ _ (by decide)]) (fun b hb => st2_a _ _ _ (by omega))) ⟨by rw [st2_aj _ _ _ _ (by decide)]; exact hT.1, hl, fun k hk => by rw [st2_a _ _ _ (by decide)]; exact hT.2.2 k hk⟩ hst (by simp) (by simpa using hs)
  rw [List.drop_zero] at a1
  refine ⟨μ', v, pl, a1, fun c h0 h1 => by rw [a2 c h0 h1, st2_a _ _ _ h1], fun k hk => by rw [a3 k hk, st2_aj _ _ _ _ (by decide)], a4, ?_⟩
  unfold m_Md_fits f_Md_fits_0
  rw [nI_0] at a5
  rw [show (0 : Int32) = nI 0 from rfl, ck_n (by omega) (by omega), nI_clamp (by omega), nm_d, nI_0]
  exact a5
