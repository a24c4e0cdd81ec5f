/-- what taking a rule changes -/
def Fz (c s0 : Nat) (μ μ' : Nat → Nat → Int32) : Prop := (∀ b, b ≠ 0 → (b < 8 ∨ 16 < b) → μ' b = μ b) ∧ (∀ k, k ≠ 19 → k ≠ 25 → k ≠ 26 → μ' 0 k = μ 0 k) ∧ (∀ s, s ≠ s0 → μ' 16 s = μ 16 s) ∧ (∀ z, z ≠ 2 * c → z ≠ 2 * c + 1 → μ' 8 z = μ 8 z) ∧ ∀ z, (∀ k, k < 400 → z ≠ 400 * c + k) → μ' 9 z = μ 9 z
theorem Fq.fz {c s0 : Nat} {μ μ' : Nat → Nat → Int32} (h : Fq c s0 μ μ') : Fz c s0 μ μ' :=
  ⟨fun b b0 hb => h.1 b b0 (by omega) (by omega) (by omega) (by omega) (by omega) (by omega), fun k k19 _ _ => h.2.1 k k19, h.2.2⟩
theorem Fz.trans {c s0 : Nat} {μ μ' μ'' : Nat → Nat → Int32} (h : Fz c s0 μ μ') (k : Fz c s0 μ' μ'') : Fz c s0 μ μ'' :=
  ⟨fun b b0 hb => by rw [k.1 b b0 hb, h.1 b b0 hb], fun z z1 z2 z3 => by rw [k.2.1 z z1 z2 z3, h.2.1 z z1 z2 z3], fun s hs => by rw [k.2.2.1 s hs, h.2.2.1 s hs], fun z h1 h2 => by rw [k.2.2.2.1 z h1 h2, h.2.2.2.1 z h1 h2], fun z hz => by rw [k.2.2.2.2 z hz, h.2.2.2.2 z hz]⟩
theorem MP.fz {μ μ' : Nat → Nat → Int32} {c c' s0 : Nat} {p : List (List Int32)} (h : MP μ c p) (k : Fz c' s0 μ μ') (hn : c ≠ c') : MP μ' c p := by
  obtain ⟨h1, h2, ⟨a1, a2, a3⟩, ⟨b1, b2, b3⟩⟩ := h
  refine ⟨h1, h2, ⟨by rw [k.2.2.2.1 _ (by omega) (by omega)]; exact a1, a2, fun q hq => ?_⟩, ⟨by rw [k.2.2.2.1 _ (by omega) (by omega)]; exact b1, b2, fun q hq => ?_⟩⟩
  · rw [k.2.2.2.2 _ (fun z hz => by omega)]
    exact a3 q hq
  · rw [k.2.2.2.2 _ (fun z hz => by omega)]
    exact b3 q hq
theorem MF.fz {μ μ' : Nat → Nat → Int32} {c c' s0 : Nat} {A : List Int32 → Prop} (h : MF μ c A) (k : Fz c' s0 μ μ') (hn : c ≠ c') : MF μ' c A := by
  obtain ⟨v, p, h1, h2, h3, h4⟩ := h
  exact ⟨v, p, by rw [k.1 7 (by decide) (by omega)]; exact h1, h2, h3.fz k hn, h4⟩
theorem MA.fz {μ μ' : Nat → Nat → Int32} {s c c' s0 : Nat} {A : List Int32 → Prop} (h : MA μ s c A) (k : Fz c' s0 μ μ') (hn : c ≠ c') (hs : s ≠ s0) : MA μ' s c A := by
  obtain ⟨v, p, h1, h2, h3, h4⟩ := h
  exact ⟨v, p, by rw [k.2.2.1 s hs]; exact h1, h2, h3.fz k hn, h4⟩
theorem val_one (left : Nat) : ∀ P, val left (fun _ => 1) P = 0
  | 0 => rfl
  | P + 1 => by
    show val left (fun _ => 1) P + (1 - 1) * left ^ P = 0
    rw [val_one left P]
    simp
theorem q_takeRule {N : Nat} (hN : 2000 ≤ N) {G : Gm} {a : Nat → Int32} {r i j : Nat} {μ : Nat → Nat → Int32} (hG : MdG μ G) (hr : r < gR G) (hu : ¬ isU G r) (hij : i < j) (hj : j ≤ 12) (h5 : μ 5 = a) (hF : ∀ s, s < gS G → ∀ i' j', i' < j' → j' ≤ j → j' - i' < j - i → MF μ (mO s i' j') (Sy G s (sg a i' j'))) {A : List Int32 → Prop} (hA : MA μ (grs G r) (mO (grs G r) i j) A) (hd : ∀ x, Tr G r (sg a i j) x → ¬ A x) :
    ∃ μ', m_Md_takeRule N μ (nI r) (nI i) (nI j) = some μ' ∧ MA μ' (grs G r) (mO (grs G r) i j) (fun x => A x ∨ Tr G r (sg a i j) x) ∧ Fz (mO (grs G r) i j) (grs G r) μ μ' := by
  have hM := vl_le4 hG.1 hr
  have hR := hG.1.2.2.1
  have hS6 := hG.1.1
  have h8 := (hG.1.2.2.2.2 r hr).2.2.1
  have hML : (vl (gry G r)).length ≤ (gry G r).length := List.length_filter_le _ _
  have hrr := (hG.2.2.2.2.2 r hr).2
  -- the variables
  have hr0 : MdR (st2 (st2 μ 0 25 (nI (vl (gry G r)).length)) 0 26 0) r (gry G r) := hrr.fq (by rw [st2_a _ _ _ (by decide), st2_a _ _ _ (by decide)]) (by rw [st2_a _ _ _ (by decide), st2_a _ _ _ (by decide)])
  obtain ⟨μ1, v1, v2, v3, v4⟩ := q_rule_17 (N := N) (by omega) hM (nI i) (nI j) (st2 (st2 μ 0 25 (nI (vl (gry G r)).length)) 0 26 0) hr0 (fun s_self => f_Md_takeRule_141 N s_self (nI r) (nI i) (nI j)) (vl (gry G r)).length 0 N (st2 (st2 μ 0 25 (nI (vl (gry G r)).length)) 0 26 0) (by omega) (by omega) (fun _ _ _ _ _ => rfl) (fun _ _ => rfl) (by rw [st2_k _ _ _ (by decide), st2_s]) ⟨fun z hz => by omega, by rw [st2_s, show bd (vl (gry G r)) 0 = 0 by simp [bd, dvs], nI_0], fun k hk => by simp [bd, dvs] at hk⟩
  have fz1 : Fz (mO (grs G r) i j) (grs G r) μ μ1 := by
    have e : ∀ b, b ≠ 0 → b ≠ 13 → b ≠ 14 → b ≠ 15 → μ1 b = μ b := fun b b0 b13 b14 b15 => by rw [v1 b b0 b13 b14 b15, st2_a _ _ _ b0, st2_a _ _ _ b0]
    exact ⟨fun b b0 hb => e b b0 (by omega) (by omega) (by omega), fun k _ k25 k26 => by rw [v2 k k26, st2_k _ _ _ k26, st2_k _ _ _ k25], fun s _ => by rw [e 16 (by decide) (by decide) (by decide) (by decide)], fun z _ _ => by rw [e 8 (by decide) (by decide) (by decide) (by decide)], fun z _ => by rw [e 9 (by decide) (by decide) (by decide) (by decide)]⟩
  have h25 : μ1 0 25 = nI (vl (gry G r)).length := by rw [v2 25 (by decide), st2_k _ _ _ (by decide), st2_s]
  have hcne : ∀ s i' j', i' < j' → j' ≤ j → j' - i' < j - i → mO s i' j' ≠ mO (grs G r) i j := by
    intro s i' j' q1 q2 q3 e
    have := mO_inj (by omega) (by omega) (by omega) hj e
    omega
  have hS1 : Rs G a r i j μ1 := ⟨hG.fq (fun k hk => fz1.2.1 k (by omega) (by omega) (by omega)) (fun b hb => fz1.1 b (by omega) (by omega)), h25, v3, by rw [fz1.1 5 (by decide) (by omega)]; exact h5, fun s hs i' j' q1 q2 q3 => (hF s hs i' j' q1 q2 q3).fz fz1 (hcne s i' j' q1 q2 q3)⟩
  have hA1 : MA μ1 (grs G r) (mO (grs G r) i j) A := hA.of (by rw [v1 8 (by decide) (by decide) (by decide) (by decide), st2_a _ _ _ (by decide), st2_a _ _ _ (by decide)]) (by rw [v1 9 (by decide) (by decide) (by decide) (by decide), st2_a _ _ _ (by decide), st2_a _ _ _ (by decide)]) (by rw [v1 16 (by decide) (by decide) (by decide) (by decide), st2_a _ _ _ (by decide), st2_a _ _ _ (by decide)])
  have run : m_Md_takeRule N μ (nI r) (nI i) (nI j) = f_Md_takeRule_141 N μ1 (nI r) (nI i) (nI j) := by
    unfold m_Md_takeRule f_Md_takeRule_0
    rw [q_vars (by omega) hrr, b1_some, nm_d, nm_d, ← nI_0]
    rw [← nI_0] at v4
    exact v4
  unfold f_Md_takeRule_141 at run
  have h3 : μ1 3 r = nI (gry G r).length := by
    rw [fz1.1 3 (by decide) (by omega)]
    exact hrr.2.1
  rw [ck_n (by omega) (by omega), nm_d, nI_clamp (by omega), h3, h25, n_sub (by omega), n_sub hML] at run
  -- no trees: nothing happens
  have none' : (∀ x, ¬ Tr G r (sg a i j) x) → m_Md_takeRule N μ (nI r) (nI i) (nI j) = some μ1 → ∃ μ', m_Md_takeRule N μ (nI r) (nI i) (nI j) = some μ' ∧ MA μ' (grs G r) (mO (grs G r) i j) (fun x => A x ∨ Tr G r (sg a i j) x) ∧ Fz (mO (grs G r) i j) (grs G r) μ μ' := by
    intro hno he
    refine ⟨μ1, he, hA1.congr (fun x => ?_), fz1⟩
    constructor
    · exact fun h => Or.inl h
    · exact fun h => h.elim id (fun q => absurd q (hno x))
  by_cases room : j - i < (gry G r).length
  · refine none' ?_ ?_
    · rintro x ⟨gs, d, g1, g2, g3⟩
      have h1 := fm_len (gry G r) (fun z hz hn => Pr_ne hG.1 g2 _ (asg_mem _ _ z g1.1 (dv_mem.mpr ⟨hz, hn⟩)))
      rw [← g1.2, sg_len] at h1
      omega
    · rw [run, if_pos]
      by_cases c : (gry G r).length - (vl (gry G r)).length ≤ j - i
      · rw [n_sub c]
        exact of_eq_true (c_lt_t (by omega) (by omega))
      · rw [Int32.lt_iff_toInt_lt, pk_sub_toInt (by omega) (by omega), nI_toInt (by omega)]
        omega
  · rw [n_sub (by omega), if_neg (of_eq_false (c_lt_f (by omega) (by omega)))] at run
    generalize hleft : j - i - ((gry G r).length - (vl (gry G r)).length) = left at *
    -- the loop
    have main : (1 ≤ left ∨ (vl (gry G r)).length = 0) → ((vl (gry G r)).length = 0 → left = 0) → m_Md_takeRule N μ (nI r) (nI i) (nI j) = l_Md_takeRule_183 N (nI r) (nI i) (nI j) (nI left) (fun s_self => f_Md_takeRule_206 N s_self (nI r) (nI i) (nI j) (nI left)) N μ1 0 → ∃ μ', m_Md_takeRule N μ (nI r) (nI i) (nI j) = some μ' ∧ MA μ' (grs G r) (mO (grs G r) i j) (fun x => A x ∨ Tr G r (sg a i j) x) ∧ Fz (mO (grs G r) i j) (grs G r) μ μ' := by
      intro hl hl0 he
      obtain ⟨μ2, y1, y2, y3⟩ := q_rule_183 (N := N) hM (nI r) (nI i) (nI j) (nI left) (fun s_self => f_Md_takeRule_206 N s_self (nI r) (nI i) (nI j) (nI left)) (vl (gry G r)).length 0 N μ1 (by omega) (by omega) h25 (fun z hz => by omega)
      have fq2 : Fq (mO (grs G r) i j) (grs G r) μ1 μ2 := Fq.of (fun b b11 _ => y1 b b11)
      have hpow : 1 ≤ left ^ ((vl (gry G r)).length - 1) ∧ left ^ ((vl (gry G r)).length - 1) ≤ 1728 := by
        have hP : (vl (gry G r)).length - 1 ≤ 3 := by omega
        rcases hl with hl | hl
        · refine ⟨Nat.pow_pos (by omega), ?_⟩
          calc left ^ ((vl (gry G r)).length - 1) ≤ 12 ^ ((vl (gry G r)).length - 1) := Nat.pow_le_pow_left (by omega) _
            _ ≤ 12 ^ 3 := Nat.pow_le_pow_right (by omega) hP
            _ = 1728 := by decide
        · rw [hl]
          simp
      obtain ⟨μ', z1, z2, z3, z4⟩ := q_rule_209 hN hG.1 hr hu hij hj (show left ≤ 12 by omega) hl hd (left ^ ((vl (gry G r)).length - 1) - 1) N μ2 (fun _ => 1) (by rw [val_one]; omega) (by omega) (Rs.fq hS6 hij hj hS1 fq2) (fun k hk => by
          have : 1 ≤ left := by omega
          exact ⟨Nat.le_refl _, this⟩) (fun k hk => y2 k (by omega)) ((hA1.of (y1 8 (by decide)) (y1 9 (by decide)) (y1 16 (by decide))).congr (fun x => by
        rw [val_one]
        constructor
        · exact fun h => Or.inl h
        · rintro (h | ⟨e, _, e2, _⟩)
          · exact h
          · omega))
      refine ⟨μ', ?_, z3.congr (fun x => ?_), fz1.trans (fq2.trans z2).fz⟩
      · rw [he]
        rw [nI_0] at y3
        rw [y3]
        exact z4
      · constructor
        · rintro (h | ⟨e, e1, e2, e3, e4, d, e5, e6⟩)
          · exact Or.inl h
          · exact Or.inr ⟨_, d, (Cu_spl e4).1, e5, e6⟩
        · rintro (h | ⟨gs, d, g1, g2, g3⟩)
          · exact Or.inl h
          · right
            have hne := Pr_ne hG.1 g2
            -- the lengths of these segments
            have hpos : ∀ q, q < (vl (gry G r)).length → 1 ≤ (asg (dv (gry G r)) gs ((vl (gry G r)).getD q 0)).length := fun q hq => List.length_pos_iff.mpr (hne _ (asg_mem _ _ _ g1.1 (vl_dv (getD_mem hq))))
            have hsum : sm (fun q => (asg (dv (gry G r)) gs ((vl (gry G r)).getD q 0)).length) (vl (gry G r)).length = left := by
              have h1 := fm_sum (g := asg (dv (gry G r)) gs) (gry G r)
              rw [← g1.2, sg_len] at h1
              have h2 := sm_map (F := fun x => (asg (dv (gry G r)) gs x).length) (L := vl (gry G r)) (vl (gry G r)).length (Nat.le_refl _)
              rw [List.take_length] at h2
              omega
            by_cases m0 : (vl (gry G r)).length = 0
            · obtain ⟨t1, t2⟩ := spl_Cu (el := ex left ((vl (gry G r)).length - 1) (fun _ => 1)) (show i ≤ j by omega) g1 (fun q hq => by omega)
              refine ⟨fun _ => 1, fun k hk => by omega, by rw [val_one]; omega, Or.inl m0, t1, d, by rw [t2]; exact g2, g3⟩
            · obtain ⟨P, hP⟩ : ∃ P, (vl (gry G r)).length = P + 1 := ⟨(vl (gry G r)).length - 1, by omega⟩
              have hP1 : (vl (gry G r)).length - 1 = P := by omega
              rw [hP1]
              have hs2 : sm (fun q => (asg (dv (gry G r)) gs ((vl (gry G r)).getD q 0)).length) P + (asg (dv (gry G r)) gs ((vl (gry G r)).getD P 0)).length = left := by
                rw [hP] at hsum
                exact hsum
              have hposP := hpos P (by omega)
              have hexq : ∀ q, q < (vl (gry G r)).length → ex left P (fun q => (asg (dv (gry G r)) gs ((vl (gry G r)).getD q 0)).length) q = (asg (dv (gry G r)) gs ((vl (gry G r)).getD q 0)).length := by
                intro q hq
                unfold ex
                by_cases c : q = P
                · rw [if_pos c, c]
                  omega
                · rw [if_neg c]
              obtain ⟨t1, t2⟩ := spl_Cu (el := ex left P (fun q => (asg (dv (gry G r)) gs ((vl (gry G r)).getD q 0)).length)) (show i ≤ j by omega) g1 hexq
              have hle : ∀ k, k < P → 1 ≤ (asg (dv (gry G r)) gs ((vl (gry G r)).getD k 0)).length ∧ (asg (dv (gry G r)) gs ((vl (gry G r)).getD k 0)).length ≤ left := by
                intro k hk
                refine ⟨hpos k (by omega), ?_⟩
                have := sm_ge (e := fun q => (asg (dv (gry G r)) gs ((vl (gry G r)).getD q 0)).length) (vl (gry G r)).length hpos k (by omega)
                rw [hsum] at this
                omega
              refine ⟨fun q => (asg (dv (gry G r)) gs ((vl (gry G r)).getD q 0)).length, by rw [hP1]; exact hle, ?_, Or.inr ?_, by rw [hP1]; exact t1, d, by rw [hP1, t2]; exact g2, g3⟩
              · rw [hP1]
                exact val_lt (by omega) P hle
              · rw [hP1]
                omega
    by_cases m0 : (vl (gry G r)).length = 0
    · rw [m0, if_pos nI_0] at run
      by_cases l0 : left ≤ 0
      · rw [if_pos (of_eq_true (c_le0_t (by omega)))] at run
        exact main (Or.inr m0) (fun _ => by omega) run
      · rw [if_neg (of_eq_false (c_le0 (by omega) (by omega)))] at run
        refine none' ?_ run
        rintro x ⟨gs, d, g1, g2, g3⟩
        have h1 := fm_sum (g := asg (dv (gry G r)) gs) (gry G r)
        rw [← g1.2, sg_len] at h1
        have h2 : vl (gry G r) = [] := List.length_eq_zero_iff.mp m0
        rw [h2] at h1
        simp at h1
        omega
    · rw [if_neg (nI_ne0 (by omega) (by omega))] at run
      exact main (Or.inl (by omega)) (fun h => absurd h m0) run
