theorem StK.frame {τ τ' : Nat → Nat → Int32} {a : Nat} {q : List Nat} (h : StK τ a q) (e : τ' a = τ a) : StK τ' a q := by
  unfold StK
  rw [e]
  exact h
theorem lx_head {x y : Int32} {a b : List Int32} (h : x ≠ y) : lx (x :: a) (y :: b) ↔ x < y := by
  constructor
  · rintro (q | ⟨q, _⟩)
    · exact q
    · exact absurd q h
  · exact fun q => Or.inl q
theorem lx_cons {x : Int32} {a b : List Int32} : lx (x :: a) (x :: b) ↔ lx a b := by
  constructor
  · rintro (q | ⟨_, q⟩)
    · exact absurd q Int32.lt_irrefl
    · exact q
  · exact fun q => Or.inr ⟨rfl, q⟩
theorem lx_same {c a b : List Int32} : lx (c ++ a) (c ++ b) ↔ lx a b := by
  rw [lx_app rfl]
  constructor
  · rintro (q | ⟨_, q⟩)
    · exact absurd q (lx_irr c)
    · exact q
  · exact fun q => Or.inr ⟨rfl, q⟩
theorem q_cases {α : Type} (q : List α) : q = [] ∨ ∃ r a, q = r ++ [a] := by
  by_cases h : q = []
  · exact Or.inl h
  · exact Or.inr ⟨q.dropLast, q.getLast h, (List.dropLast_concat_getLast h).symm⟩
theorem p_isLess_l {N : Nat} (hN : 5 ≤ N) {C : Nat → List Int32} {ar : Int32 → Nat} {V Q : Nat → Prop} : ∀ (d st n : Nat) (τ : Nat → Nat → Int32) (qL qR : List Nat), st + d = 150 → d < n → TT τ C ar V Q → StK τ 5 qL → StK τ 6 qR → qL.length = qR.length → (∀ p, p ∈ qL → V p) → (∀ p, p ∈ qR → V p) → (rem C qL).length = (rem C qR).length → (rem C qL).length ≤ d →
    ∃ τ' b, (∀ c, c ≠ 5 → c ≠ 6 → τ' c = τ c) ∧ ((b = 1 ∧ lx (rem C qL) (rem C qR)) ∨ (b = 0 ∧ ¬ lx (rem C qL) (rem C qR))) ∧ l_Tt_isLess_55 N (fun s_self v5 v6 => f_Tt_isLess_103 N s_self v5 v6) (fun s_self => f_Tt_isLess_163 N s_self) n τ (nI qL.length) (nI st) = some (b, τ') := by
  intro d
  induction d with
  | zero =>
    intro st n τ qL qR hst hn hT h5 h6 hl hL hR he hb
    obtain ⟨m, rfl⟩ : ∃ m, n = m + 1 := ⟨n - 1, by omega⟩
    refine ⟨τ, 0, fun _ _ _ => rfl, Or.inr ⟨rfl, ?_⟩, ?_⟩
    · have e1 : rem C qL = [] := List.length_eq_zero_iff.mp (by omega)
      rw [e1]
      exact fun h => h.elim
    · unfold l_Tt_isLess_55 f_Tt_isLess_55
      simp (disch := omega) only [nm_x, b1_some, b2_some, b3_some, b4_some, ck_n, nI_clamp, nI_add, nI_1, n_1add, pk_mul, n_sub, n_sub1, n_addm1, l_2, l_3, l_4, l_5, l_6, l_7, l_8, l_9, l_10, l_11, l_12, l_13, l_20, l_30, l_31, l_36, l_120, l_150, l_200, l_240, l_248, l_400, l_468, l_601, l_936, l_937, l_1000, l_1872, l_2600, l_3744, l_3748, l_374400, l_1000001, l_1000002, c_lt_t, c_lt_f, c_le_t, c_le_f, c_eq_t, c_eq_f, c_n0, c_0le, c_0lt, c_0lt_f, c_le0, c_le0_t, c_m1, c_m1l, c_ne0, c_eq0, c_eq1, c_ne1, c_lt1, c_1lt, c_1lt_f, m1_neg, if_true, if_false]
      rfl
  | succ d ih =>
    intro st n τ qL qR hst hn hT h5 h6 hl hL hR he hb
    obtain ⟨m, rfl⟩ : ∃ m, n = m + 1 := ⟨n - 1, by omega⟩
    rcases q_cases qL with rfl | ⟨q, a, rfl⟩
    · refine ⟨τ, 0, fun _ _ _ => rfl, Or.inr ⟨rfl, fun h => h.elim⟩, ?_⟩
      unfold l_Tt_isLess_55 f_Tt_isLess_55
      rw [List.length_nil]
      simp (disch := omega) only [nm_x, b1_some, b2_some, b3_some, b4_some, ck_n, nI_clamp, nI_add, nI_1, n_1add, pk_mul, n_sub, n_sub1, n_addm1, l_2, l_3, l_4, l_5, l_6, l_7, l_8, l_9, l_10, l_11, l_12, l_13, l_20, l_30, l_31, l_36, l_120, l_150, l_200, l_240, l_248, l_400, l_468, l_601, l_936, l_937, l_1000, l_1872, l_2600, l_3744, l_3748, l_374400, l_1000001, l_1000002, c_lt_t, c_lt_f, c_le_t, c_le_f, c_eq_t, c_eq_f, c_n0, c_0le, c_0lt, c_0lt_f, c_le0, c_le0_t, c_m1, c_m1l, c_ne0, c_eq0, c_eq1, c_ne1, c_lt1, c_1lt, c_1lt_f, m1_neg, if_true, if_false]
      rfl
    · rcases q_cases qR with rfl | ⟨q', b, rfl⟩
      · simp at hl
      · simp only [List.length_append, List.length_cons, List.length_nil] at hl
        rw [rem_snoc, rem_snoc] at he
        rw [rem_snoc] at hb
        rw [rem_snoc, rem_snoc]
        simp only [List.length_append] at he hb
        obtain ⟨a9, ta⟩ := hT.1 a (hL a (by simp))
        obtain ⟨b9, tb⟩ := hT.1 b (hR b (by simp))
        have na := ta.ne
        have nb := tb.ne
        obtain ⟨psa, a1, a2, a3, a4, a5, a6, a7⟩ := ta
        obtain ⟨psb, b1, b2, b3, b4, b5, b6, b7⟩ := tb
        have Lq : ∀ p, p ∈ q → V p := fun p hp => hL p (by simp [hp])
        have Rq : ∀ p, p ∈ q' → V p := fun p hp => hR p (by simp [hp])
        have lq := rem_len (C := C) (q := q) (fun p hp => (hT.1 p (Lq p hp)).2.ne)
        have e5 := h5.top
        have e6 := h6.top
        rw [← (by omega : q.length = q'.length)] at e6
        have hql : (q ++ [a]).length = q.length + 1 := by simp
        unfold l_Tt_isLess_55 f_Tt_isLess_55
        rw [hql]
        have e0 : q.length + 1 - 1 = q.length := by omega
        simp (disch := omega) only [nm_x, b1_some, b2_some, b3_some, b4_some, ck_n, nI_clamp, nI_add, nI_1, n_1add, pk_mul, n_sub, n_sub1, n_addm1, l_2, l_3, l_4, l_5, l_6, l_7, l_8, l_9, l_10, l_11, l_12, l_13, l_20, l_30, l_31, l_36, l_120, l_150, l_200, l_240, l_248, l_400, l_468, l_601, l_936, l_937, l_1000, l_1872, l_2600, l_3744, l_3748, l_374400, l_1000001, l_1000002, c_lt_t, c_lt_f, c_le_t, c_le_f, c_eq_t, c_eq_f, c_n0, c_0le, c_0lt, c_0lt_f, c_le0, c_le0_t, c_m1, c_m1l, c_ne0, c_eq0, c_eq1, c_ne1, c_lt1, c_1lt, c_1lt_f, m1_neg, if_true, if_false, e0, e5, e6]
        by_cases hh : τ 2 a = τ 2 b
        · rw [if_pos hh]
          by_cases hab : a = b
          · subst hab
            obtain ⟨τ', b', f1, f2, f3⟩ := ih (st + 1) m τ q q' (by omega) (by omega) hT h5.pop h6.pop (by omega) Lq Rq (by omega) (by omega)
            refine ⟨τ', b', f1, ?_, ?_⟩
            · rw [lx_same]; exact f2
            · rw [if_pos rfl]; exact f3
          · obtain ⟨τ1, g1, g2, g3⟩ := p_stackParts_6 hN b9 b2 (q := q') (by
              have := rem_len (C := C) (q := q' ++ psb.reverse) (fun p hp => by
                rcases List.mem_append.mp hp with hp | hp
                · exact (hT.1 p (Rq p hp)).2.ne
                · obtain ⟨k, hk, e⟩ := mem_getD (d := 0) (List.mem_reverse.mp hp)
                  exact (hT.1 p (e ▸ hT.2 _ (b4 k hk).2)).2.ne)
              rw [rem_push] at this
              rw [b5] at he
              simp only [List.length_append, List.length_cons, List.length_reverse] at this he
              omega) b3 (fun k hk => (b4 k hk).1) h6.pop
            have hT1 : TT τ1 C ar V Q := hT.frame (fun c _ h6 => g1 c h6)
            obtain ⟨τ2, k1, k2, k3⟩ := p_stackParts_5 (τ := τ1) hN a9 a2 (q := q) (by
              have := rem_len (C := C) (q := q ++ psa.reverse) (fun p hp => by
                rcases List.mem_append.mp hp with hp | hp
                · exact (hT.1 p (Lq p hp)).2.ne
                · obtain ⟨k, hk, e⟩ := mem_getD (d := 0) (List.mem_reverse.mp hp)
                  exact (hT.1 p (e ▸ hT.2 _ (a4 k hk).2)).2.ne)
              rw [rem_push] at this
              rw [a5] at hb
              simp only [List.length_append, List.length_cons, List.length_reverse] at this hb
              omega) (by rw [g1 3 (by decide)]; exact a3) (fun k hk => by rw [g1 4 (by decide)]; exact (a4 k hk).1) (h5.pop.frame (g1 5 (by decide)))
            have hll : psa.length = psb.length := by rw [a1, b1, hh]
            have ra : rem C (q ++ psa.reverse) = (psa.map C).flatten ++ rem C q := rem_push C q psa
            have rb : rem C (q' ++ psb.reverse) = (psb.map C).flatten ++ rem C q' := rem_push C q' psb
            rw [a5, b5] at he
            rw [a5] at hb
            simp only [List.length_cons] at he hb
            obtain ⟨τ', b', f1, f2, f3⟩ := ih (st + 1) m τ2 (q ++ psa.reverse) (q' ++ psb.reverse) (by omega) (by omega) (hT1.frame (fun c h5 _ => k1 c h5)) k2 (g2.frame (k1 6 (by decide))) (by simp only [List.length_append, List.length_reverse]; omega)
              (fun p hp => by
                rcases List.mem_append.mp hp with hp | hp
                · exact Lq p hp
                · obtain ⟨k, hk, e⟩ := mem_getD (d := 0) (List.mem_reverse.mp hp)
                  exact e ▸ hT.2 _ (a4 k hk).2)
              (fun p hp => by
                rcases List.mem_append.mp hp with hp | hp
                · exact Rq p hp
                · obtain ⟨k, hk, e⟩ := mem_getD (d := 0) (List.mem_reverse.mp hp)
                  exact e ▸ hT.2 _ (b4 k hk).2)
              (by rw [ra, rb]; simp only [List.length_append]; omega) (by rw [ra]; simp only [List.length_append]; omega)
            refine ⟨τ', b', fun c h5 h6 => by rw [f1 c h5 h6, k1 c h5, g1 c h6], ?_, ?_⟩
            · rw [ra, rb] at f2
              rw [a5, b5, hh, List.cons_append, List.cons_append, lx_cons]
              exact f2
            · rw [if_neg (fun e => hab (nI_inj (by omega) (by omega) e))]
              rw [show q.length = q'.length by omega, g3]
              simp (disch := omega) only [nm_x, b1_some, b2_some, b3_some, b4_some, ck_n, nI_clamp, nI_add, nI_1, n_1add, pk_mul, n_sub, n_sub1, n_addm1, l_2, l_3, l_4, l_5, l_6, l_7, l_8, l_9, l_10, l_11, l_12, l_13, l_20, l_30, l_31, l_36, l_120, l_150, l_200, l_240, l_248, l_400, l_468, l_601, l_936, l_937, l_1000, l_1872, l_2600, l_3744, l_3748, l_374400, l_1000001, l_1000002, c_lt_t, c_lt_f, c_le_t, c_le_f, c_eq_t, c_eq_f, c_n0, c_0le, c_0lt, c_0lt_f, c_le0, c_le0_t, c_m1, c_m1l, c_ne0, c_eq0, c_eq1, c_ne1, c_lt1, c_1lt, c_1lt_f, m1_neg, if_true, if_false]
              rw [show q'.length = q.length by omega, k3]
              simp (disch := omega) only [nm_x, b1_some, b2_some, b3_some, b4_some, ck_n, nI_clamp, nI_add, nI_1, n_1add, pk_mul, n_sub, n_sub1, n_addm1, l_2, l_3, l_4, l_5, l_6, l_7, l_8, l_9, l_10, l_11, l_12, l_13, l_20, l_30, l_31, l_36, l_120, l_150, l_200, l_240, l_248, l_400, l_468, l_601, l_936, l_937, l_1000, l_1872, l_2600, l_3744, l_3748, l_374400, l_1000001, l_1000002, c_lt_t, c_lt_f, c_le_t, c_le_f, c_eq_t, c_eq_f, c_n0, c_0le, c_0lt, c_0lt_f, c_le0, c_le0_t, c_m1, c_m1l, c_ne0, c_eq0, c_eq1, c_ne1, c_lt1, c_1lt, c_1lt_f, m1_neg, if_true, if_false]
              rw [show (q ++ psa.reverse).length = q.length + psa.length by simp] at f3
              exact f3
        · rw [if_neg hh]
          have hlx : lx (C a ++ rem C q) (C b ++ rem C q') ↔ τ 2 a < τ 2 b := by
            rw [a5, b5, List.cons_append, List.cons_append, lx_head hh]
          unfold f_Tt_isLess_103
          simp (disch := omega) only [nm_x, b1_some, b2_some, b3_some, b4_some, ck_n, nI_clamp, nI_add, nI_1, n_1add, pk_mul, n_sub, n_sub1, n_addm1, l_2, l_3, l_4, l_5, l_6, l_7, l_8, l_9, l_10, l_11, l_12, l_13, l_20, l_30, l_31, l_36, l_120, l_150, l_200, l_240, l_248, l_400, l_468, l_601, l_936, l_937, l_1000, l_1872, l_2600, l_3744, l_3748, l_374400, l_1000001, l_1000002, c_lt_t, c_lt_f, c_le_t, c_le_f, c_eq_t, c_eq_f, c_n0, c_0le, c_0lt, c_0lt_f, c_le0, c_le0_t, c_m1, c_m1l, c_ne0, c_eq0, c_eq1, c_ne1, c_lt1, c_1lt, c_1lt_f, m1_neg, if_true, if_false]
          by_cases hc : τ 2 b ≤ τ 2 a
          · rw [if_pos hc]
            exact ⟨τ, 0, fun _ _ _ => rfl, Or.inr ⟨rfl, fun q => Int32.not_lt.mpr hc (hlx.mp q)⟩, rfl⟩
          · rw [if_neg hc]
            exact ⟨τ, 1, fun _ _ _ => rfl, Or.inl ⟨rfl, hlx.mpr (Int32.not_le.mp hc)⟩, rfl⟩
/-- which of two trees is less -/
theorem p_isLess {N : Nat} (hN : 151 ≤ N) {τ : Nat → Nat → Int32} {C : Nat → List Int32} {ar : Int32 → Nat} {V Q : Nat → Prop} (hT : TT τ C ar V Q) {a b : Nat} (ha : V a) (hb : V b) (hs : (C a).length ≤ 150) :
    ∃ τ' x, (∀ c, c ≠ 5 → c ≠ 6 → τ' c = τ c) ∧ ((x = 1 ∧ cl (C a) (C b)) ∨ (x = 0 ∧ ¬ cl (C a) (C b))) ∧ m_Tt_isLess N τ (nI a) (nI b) = some (x, τ') := by
  obtain ⟨a9, ta⟩ := hT.1 a ha
  obtain ⟨b9, tb⟩ := hT.1 b hb
  obtain ⟨psa, a1, a2, a3, a4, a5, a6, a7⟩ := ta
  obtain ⟨psb, b1, b2, b3, b4, b5, b6, b7⟩ := tb
  unfold m_Tt_isLess f_Tt_isLess_0
  simp (disch := omega) only [nm_x, b1_some, b2_some, b3_some, b4_some, ck_n, nI_clamp, nI_add, nI_1, n_1add, pk_mul, n_sub, n_sub1, n_addm1, l_2, l_3, l_4, l_5, l_6, l_7, l_8, l_9, l_10, l_11, l_12, l_13, l_20, l_30, l_31, l_36, l_120, l_150, l_200, l_240, l_248, l_400, l_468, l_601, l_936, l_937, l_1000, l_1872, l_2600, l_3744, l_3748, l_374400, l_1000001, l_1000002, c_lt_t, c_lt_f, c_le_t, c_le_f, c_eq_t, c_eq_f, c_n0, c_0le, c_0lt, c_0lt_f, c_le0, c_le0_t, c_m1, c_m1l, c_ne0, c_eq0, c_eq1, c_ne1, c_lt1, c_1lt, c_1lt_f, m1_neg, if_true, if_false, a6, b6]
  by_cases he : (C a).length = (C b).length
  · rw [if_pos (by rw [he])]
    have c0 : ∀ k : Option (Int32 × (Nat → Nat → Int32)), ck 0 150 k = k := fun k => ck_n (j := 0) (by decide) (by decide)
    have t0 : Int32.toNatClampNeg 0 = 0 := by decide
    rw [c0, c0, t0]
    have h5 : StK (st2 (st2 τ 5 0 (nI a)) 6 0 (nI b)) 5 [a] := by
      intro k hk
      simp only [List.length_cons, List.length_nil] at hk
      have : k = 0 := by omega
      subst this
      rw [st2_aj _ _ _ _ (by decide), st2_s]
      rfl
    have h6 : StK (st2 (st2 τ 5 0 (nI a)) 6 0 (nI b)) 6 [b] := by
      intro k hk
      simp only [List.length_cons, List.length_nil] at hk
      have : k = 0 := by omega
      subst this
      rw [st2_s]
      rfl
    have fr : ∀ c, c ≠ 5 → c ≠ 6 → st2 (st2 τ 5 0 (nI a)) 6 0 (nI b) c = τ c := by
      intro c h5 h6
      rw [st2_a _ _ _ h6, st2_a _ _ _ h5]
    have ea : rem C [a] = C a := by simp [rem]
    have eb : rem C [b] = C b := by simp [rem]
    obtain ⟨τ', x, f1, f2, f3⟩ := p_isLess_l (by omega : 5 ≤ N) 150 0 N _ [a] [b] rfl (by omega) (hT.frame fr) h5 h6 rfl (fun p hp => by simp at hp; rw [hp]; exact ha) (fun p hp => by simp at hp; rw [hp]; exact hb) (by rw [ea, eb]; exact he) (by rw [ea]; exact hs)
    rw [ea, eb] at f2
    refine ⟨τ', x, fun c h5 h6 => by rw [f1 c h5 h6, fr c h5 h6], ?_, f3⟩
    rcases f2 with ⟨f2, f4⟩ | ⟨f2, f4⟩
    · exact Or.inl ⟨f2, Or.inr ⟨he, f4⟩⟩
    · refine Or.inr ⟨f2, ?_⟩
      rintro (q | ⟨_, q⟩)
      · omega
      · exact f4 q
  · rw [if_neg (fun e => he (nI_inj (by omega) (by omega) e))]
    by_cases hc : (C b).length ≤ (C a).length
    · simp (disch := omega) only [nm_x, b1_some, b2_some, b3_some, b4_some, ck_n, nI_clamp, nI_add, nI_1, n_1add, pk_mul, n_sub, n_sub1, n_addm1, l_2, l_3, l_4, l_5, l_6, l_7, l_8, l_9, l_10, l_11, l_12, l_13, l_20, l_30, l_31, l_36, l_120, l_150, l_200, l_240, l_248, l_400, l_468, l_601, l_936, l_937, l_1000, l_1872, l_2600, l_3744, l_3748, l_374400, l_1000001, l_1000002, c_lt_t, c_lt_f, c_le_t, c_le_f, c_eq_t, c_eq_f, c_n0, c_0le, c_0lt, c_0lt_f, c_le0, c_le0_t, c_m1, c_m1l, c_ne0, c_eq0, c_eq1, c_ne1, c_lt1, c_1lt, c_1lt_f, m1_neg, if_true, if_false]
      refine ⟨τ, 0, fun _ _ _ => rfl, Or.inr ⟨rfl, ?_⟩, rfl⟩
      rintro (q | ⟨q, _⟩) <;> omega
    · simp (disch := omega) only [nm_x, b1_some, b2_some, b3_some, b4_some, ck_n, nI_clamp, nI_add, nI_1, n_1add, pk_mul, n_sub, n_sub1, n_addm1, l_2, l_3, l_4, l_5, l_6, l_7, l_8, l_9, l_10, l_11, l_12, l_13, l_20, l_30, l_31, l_36, l_120, l_150, l_200, l_240, l_248, l_400, l_468, l_601, l_936, l_937, l_1000, l_1872, l_2600, l_3744, l_3748, l_374400, l_1000001, l_1000002, c_lt_t, c_lt_f, c_le_t, c_le_f, c_eq_t, c_eq_f, c_n0, c_0le, c_0lt, c_0lt_f, c_le0, c_le0_t, c_m1, c_m1l, c_ne0, c_eq0, c_eq1, c_ne1, c_lt1, c_1lt, c_1lt_f, m1_neg, if_true, if_false]
      exact ⟨τ, 1, fun _ _ _ => rfl, Or.inl ⟨rfl, Or.inl (by omega)⟩, rfl⟩
