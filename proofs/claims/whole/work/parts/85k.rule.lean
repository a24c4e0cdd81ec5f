theorem q_rule_220 {N : Nat} {μ : Nat → Nat → Int32} {M left : Nat} {e : Nat → Nat} (hM : M ≤ 4) (h25 : μ 0 25 = nI M) (h11 : ∀ k, k < M - 1 → μ 11 k = nI (e k)) (v1 v2 v3 : Int32) (kx : Int32 → Option (Nat → Nat → Int32)) : ∀ (d k n : Nat), k + d = M - 1 → d < n → l_Md_takeRule_220 N μ v1 v2 v3 (nI left) kx n (nI (sm e k)) (nI k) = kx (nI (sm e (M - 1))) := by
  intro d
  induction d with
  | zero =>
    intro k n hk hn
    obtain ⟨n, rfl⟩ : ∃ m, n = m + 1 := ⟨n - 1, by omega⟩
    have : k = M - 1 := by omega
    subst this
    unfold l_Md_takeRule_220 f_Md_takeRule_220
    rw [h25, nI_1, if_pos (nI_le (by omega) (by omega))]
  | succ d ih =>
    intro k n hk hn
    obtain ⟨n, rfl⟩ : ∃ m, n = m + 1 := ⟨n - 1, by omega⟩
    unfold l_Md_takeRule_220 f_Md_takeRule_220
    rw [h25, nI_1, if_neg (nI_ge (by omega) (by omega)), ck_n (by omega) (by omega), nI_clamp (by omega), h11 k (by omega), nI_add, nm_d, nm_d]
    exact ih (k + 1) n (by omega) (by omega)
theorem q_rule_306 {N : Nat} {M left : Nat} {e : Nat → Nat} (hM : M ≤ 4) (hl : left ≤ 12) (hb : ∀ k, k < M - 1 → 1 ≤ e k ∧ e k ≤ left) (v1 v2 v3 : Int32) (kx : (Nat → Nat → Int32) → Int32 → Option (Nat → Nat → Int32)) : ∀ (d k n : Nat) (μ : Nat → Nat → Int32), k + d = M - 1 → d < n → μ 0 25 = nI M → (∀ z, z < M - 1 → μ 11 z = nI (if z < k then 1 else e z)) → (∀ z, z < k → e z = left) →
    ∃ μ' k', k' ≤ M - 1 ∧ (∀ b, b ≠ 11 → μ' b = μ b) ∧ (∀ z, z < M - 1 → μ' 11 z = nI (if z < k' then 1 else e z)) ∧ (∀ z, z < k' → e z = left) ∧ (k' = M - 1 ∨ (k' < M - 1 ∧ e k' ≠ left)) ∧ l_Md_takeRule_306 N v1 v2 v3 (nI left) kx n μ (nI k) = kx μ' (nI k') := by
  intro d
  induction d with
  | zero =>
    intro k n μ hk hn h25 h11 hf
    obtain ⟨n, rfl⟩ : ∃ m, n = m + 1 := ⟨n - 1, by omega⟩
    refine ⟨μ, k, by omega, fun _ _ => rfl, h11, hf, Or.inl (by omega), ?_⟩
    unfold l_Md_takeRule_306 f_Md_takeRule_306
    rw [h25, nI_1, if_pos (nI_le (by omega) (by omega))]
  | succ d ih =>
    intro k n μ hk hn h25 h11 hf
    obtain ⟨n, rfl⟩ : ∃ m, n = m + 1 := ⟨n - 1, by omega⟩
    have hkP : k < M - 1 := by omega
    have hbk := hb k hkP
    have ek : μ 11 k = nI (e k) := by
      rw [h11 k hkP, if_neg (by omega)]
    obtain ⟨X, hX⟩ : ∃ X, X = l_Md_takeRule_306 N v1 v2 v3 (nI left) kx (n + 1) μ (nI k) := ⟨_, rfl⟩
    rw [← hX]
    have step : X = f_Md_takeRule_306 N (l_Md_takeRule_306 N v1 v2 v3 (nI left) kx n) kx μ v1 v2 v3 (nI left) (nI k) := hX
    unfold f_Md_takeRule_306 at step
    rw [h25, nI_1, if_neg (nI_ge (by omega) (by omega)), ck_n (by omega) (by omega), nI_clamp (by omega), ek] at step
    by_cases c : e k = left
    · rw [if_pos (by rw [c]), ck_n (by omega) (by omega), nm_d, nm_d] at step
      obtain ⟨μ', k', g1, g2, g3, g4, g5, g6⟩ := ih (k + 1) n (st2 μ 11 k 1) (by omega) (by omega) (by rw [st2_aj _ _ _ _ (by decide)]; exact h25) (fun z hz => by
        by_cases q : z = k
        · subst q
          rw [st2_s, if_pos (by omega)]
          rfl
        · rw [st2_k _ _ _ q, h11 z hz]
          by_cases q2 : z < k
          · rw [if_pos q2, if_pos (by omega)]
          · rw [if_neg q2, if_neg (by omega)]) (fun z hz => by
        by_cases q : z = k
        · rw [q]; exact c
        · exact hf z (by omega))
      exact ⟨μ', k', g1, fun b hb' => by rw [g2 b hb', st2_a _ _ _ hb'], g3, g4, g5, by rw [step]; exact g6⟩
    · rw [if_neg (fun q => c (nI_inj (by omega) (by omega) q))] at step
      exact ⟨μ, k, by omega, fun _ _ => rfl, h11, hf, Or.inr ⟨hkP, c⟩, step⟩
theorem q_rule_183 {N : Nat} {M : Nat} (hM : M ≤ 4) (v1 v2 v3 v4 : Int32) (kx : (Nat → Nat → Int32) → Option (Nat → Nat → Int32)) : ∀ (d k n : Nat) (μ : Nat → Nat → Int32), k + d = M → d < n → μ 0 25 = nI M → (∀ z, z < k → μ 11 z = nI 1) → ∃ μ', (∀ b, b ≠ 11 → μ' b = μ b) ∧ (∀ z, z < M → μ' 11 z = nI 1) ∧ l_Md_takeRule_183 N v1 v2 v3 v4 kx n μ (nI k) = kx μ' := by
  intro d
  induction d with
  | zero =>
    intro k n μ hk hn h25 h11
    obtain ⟨n, rfl⟩ : ∃ m, n = m + 1 := ⟨n - 1, by omega⟩
    have : k = M := by omega
    subst this
    refine ⟨μ, fun _ _ => rfl, h11, ?_⟩
    unfold l_Md_takeRule_183 f_Md_takeRule_183
    rw [h25, if_pos (nI_le (Nat.le_refl _) (by omega))]
  | succ d ih =>
    intro k n μ hk hn h25 h11
    obtain ⟨n, rfl⟩ : ∃ m, n = m + 1 := ⟨n - 1, by omega⟩
    obtain ⟨μ', g1, g2, g3⟩ := ih (k + 1) n (st2 μ 11 k 1) (by omega) (by omega) (by rw [st2_aj _ _ _ _ (by decide)]; exact h25) (fun z hz => by
      by_cases q : z = k
      · subst q
        rw [st2_s]
        rfl
      · rw [st2_k _ _ _ q]
        exact h11 z (by omega))
    refine ⟨μ', fun b hb => by rw [g1 b hb, st2_a _ _ _ hb], g2, ?_⟩
    unfold l_Md_takeRule_183 f_Md_takeRule_183
    rw [h25, if_neg (nI_ge (by omega) (by omega)), ck_n (by omega) (by omega), nm_d, nI_clamp (by omega), nm_d, nI_1]
    exact g3
theorem Cv_next {G : Gm} {a : Nat → Int32} {r i j left : Nat} (hl : 1 ≤ left ∨ (vl (gry G r)).length = 0) {e : Nat → Nat} (hb : ∀ k, k < (vl (gry G r)).length - 1 → 1 ≤ e k ∧ e k ≤ left) (x : List Int32) : Cv G a r i j left (val left e ((vl (gry G r)).length - 1) + 1) x ↔ Cv G a r i j left (val left e ((vl (gry G r)).length - 1)) x ∨ (((vl (gry G r)).length = 0 ∨ sm e ((vl (gry G r)).length - 1) < left) ∧ Cu a (ex left ((vl (gry G r)).length - 1) e) (fo (gry G r)) i j (gry G r) ∧ ∃ d, Pr G (dv (gry G r)) (gsOf a (ex left ((vl (gry G r)).length - 1) e) i (gry G r)) d ∧ x = nI r :: d) := by
  constructor
  · rintro ⟨f, f1, f2, f3, f4, f5⟩
    by_cases c : val left f ((vl (gry G r)).length - 1) < val left e ((vl (gry G r)).length - 1)
    · exact Or.inl ⟨f, f1, c, f3, f4, f5⟩
    · right
      have heq : ∀ k, k < (vl (gry G r)).length - 1 → f k = e k := by
        rcases hl with hl | hl
        · exact val_inj hl _ f1 hb (by omega)
        · intro k hk; omega
      have hsm : sm f ((vl (gry G r)).length - 1) = sm e ((vl (gry G r)).length - 1) := sm_congr _ heq
      by_cases m0 : (vl (gry G r)).length = 0
      · -- no variables: the lengths don't matter
        have hdv : dv (gry G r) = [] := by
          have := dv_len (vl (gry G r))
          rw [← dv_vl, m0] at this
          exact List.length_eq_zero_iff.mp (by omega)
        have hgs : ∀ el, gsOf a el i (gry G r) = [] := by
          intro el
          unfold gsOf
          rw [hdv]
          rfl
        rw [hgs] at f5
        refine ⟨Or.inl m0, ⟨?_, fun q hq => by omega⟩, by rw [hgs]; exact f5⟩
        have key : ∀ (l : List Int32) (el el' : Nat → Nat) (q p : Nat), (vl l).length = 0 → Wk a el j l q p → Wk a el' j l q p := by
          intro l
          induction l with
          | nil => intro _ _ _ _ _ h; exact h
          | cons x xs ih =>
            intro el el' q p h0 h
            by_cases c : x < 0
            · rw [vl_cons_n c] at h0
              simp at h0
            · rw [vl_cons_p c] at h0
              have h' : (if x < 0 then p + el q ≤ j ∧ Wk a el j xs (q + 1) (p + el q) else p < j ∧ a p = x ∧ Wk a el j xs q (p + 1)) := h
              rw [if_neg c] at h'
              show (if x < 0 then _ else _)
              rw [if_neg c]
              exact ⟨h'.1, h'.2.1, ih el el' q (p + 1) h0 h'.2.2⟩
        exact key _ _ _ 0 i m0 f4.1
      · have hex : ∀ q, q < (vl (gry G r)).length → ex left ((vl (gry G r)).length - 1) e q = ex left ((vl (gry G r)).length - 1) f q := by
          intro q hq
          unfold ex
          by_cases c2 : q = (vl (gry G r)).length - 1
          · rw [if_pos c2, if_pos c2, hsm]
          · rw [if_neg c2, if_neg c2, heq q (by omega)]
        obtain ⟨s1, s2⟩ := Cu_spl f4
        obtain ⟨t1, t2⟩ := spl_Cu (el := ex left ((vl (gry G r)).length - 1) e) (Wk_le _ _ _ f4.1) s1 (fun q hq => by rw [hex q hq]; exact s2 q hq)
        rw [← t2] at f5
        refine ⟨?_, t1, f5⟩
        rcases f3 with f3 | f3
        · exact Or.inl f3
        · exact Or.inr (by rw [← hsm]; exact f3)
  · rintro (⟨f, f1, f2, f3⟩ | ⟨f3, f4, f5⟩)
    · exact ⟨f, f1, by omega, f3⟩
    · exact ⟨e, hb, by omega, f3, f4, f5⟩
theorem val_bump {left : Nat} {e e' : Nat → Nat} {k : Nat} : ∀ {P : Nat}, k < P → e k - 1 = e' k - 1 + 1 → (∀ z, z ≠ k → e z = e' z) → val left e P = val left e' P + left ^ k
  | 0, h, _, _ => by omega
  | P + 1, h, h1, h2 => by
    show val left e P + (e P - 1) * left ^ P = val left e' P + (e' P - 1) * left ^ P + left ^ k
    by_cases c : k = P
    · subst c
      rw [h1, Nat.add_mul, Nat.one_mul, val_congr k (fun z hz => h2 z (by omega))]
      omega
    · rw [val_bump (P := P) (by omega) h1 h2, h2 P (fun q => c q.symm)]
      omega
/-- one vector of lengths: its ways are taken, then the lengths go on -/
theorem q_rule_iter {N : Nat} (hN : 2000 ≤ N) {G : Gm} {a : Nat → Int32} {r i j left : Nat} (hG : GOK G) (hr : r < gR G) (hu : ¬ isU G r) (hij : i < j) (hj : j ≤ 12) (hl12 : left ≤ 12) (hl : 1 ≤ left ∨ (vl (gry G r)).length = 0) {A : List Int32 → Prop} (hd : ∀ x, Tr G r (sg a i j) x → ¬ A x) {μ : Nat → Nat → Int32} {e : Nat → Nat} (hS : Rs G a r i j μ) (hb : ∀ k, k < (vl (gry G r)).length - 1 → 1 ≤ e k ∧ e k ≤ left) (h11 : ∀ k, k < (vl (gry G r)).length - 1 → μ 11 k = nI (e k)) (hA : MA μ (grs G r) (mO (grs G r) i j) (fun x => A x ∨ Cv G a r i j left (val left e ((vl (gry G r)).length - 1)) x)) (KB : (Nat → Nat → Int32) → Int32 → Option (Nat → Nat → Int32)) (kx : (Nat → Nat → Int32) → Option (Nat → Nat → Int32)) :
    ∃ μ1, Rs G a r i j μ1 ∧ Fq (mO (grs G r) i j) (grs G r) μ μ1 ∧ (∀ k, k < (vl (gry G r)).length - 1 → μ1 11 k = nI (e k)) ∧ MA μ1 (grs G r) (mO (grs G r) i j) (fun x => A x ∨ Cv G a r i j left (val left e ((vl (gry G r)).length - 1) + 1) x) ∧ f_Md_takeRule_209 N KB kx μ (nI r) (nI i) (nI j) (nI left) 1 = l_Md_takeRule_306 N (nI r) (nI i) (nI j) (nI left) (fun s_self v7 => f_Md_takeRule_343 N KB kx s_self (nI r) (nI i) (nI j) (nI left) v7) N μ1 0 := by
  have hM := vl_le4 hG hr
  have hR := hG.2.2.1
  have hS6 := hG.1
  obtain ⟨X, hX⟩ : ∃ X, X = f_Md_takeRule_209 N KB kx μ (nI r) (nI i) (nI j) (nI left) 1 := ⟨_, rfl⟩
  rw [← hX]
  have h25 := hS.2.1
  have hsum := q_rule_220 (N := N) (left := left) hM h25 h11 (nI r) (nI i) (nI j) (fun v6 => f_Md_takeRule_249 N KB kx μ (nI r) (nI i) (nI j) (nI left) v6) ((vl (gry G r)).length - 1) 0 N (by omega) (by omega)
  have step : X = f_Md_takeRule_249 N KB kx μ (nI r) (nI i) (nI j) (nI left) (nI (sm e ((vl (gry G r)).length - 1))) := by
    rw [hX]
    unfold f_Md_takeRule_209
    rw [if_neg (by decide)]
    rw [nI_0, show sm e 0 = 0 from rfl, nI_0] at hsum
    exact hsum
  have hsmb : sm e ((vl (gry G r)).length - 1) ≤ 12 * 4 := by
    have key : ∀ n, n ≤ (vl (gry G r)).length - 1 → sm e n ≤ 12 * n := by
      intro n
      induction n with
      | zero => intro _; exact Nat.le_refl _
      | succ n ihn =>
        intro hn
        have h1 := ihn (by omega)
        have h2 := hb n (by omega)
        show sm e n + e n ≤ _
        omega
    have := key _ (Nat.le_refl _)
    omega
  -- where no way is
  have noWay : ∀ μ1, Rs G a r i j μ1 → Fq (mO (grs G r) i j) (grs G r) μ μ1 → (∀ k, k < (vl (gry G r)).length - 1 → μ1 11 k = nI (e k)) → MA μ1 (grs G r) (mO (grs G r) i j) (fun x => A x ∨ Cv G a r i j left (val left e ((vl (gry G r)).length - 1)) x) → ¬ ((vl (gry G r)).length = 0 ∨ sm e ((vl (gry G r)).length - 1) < left) → X = l_Md_takeRule_306 N (nI r) (nI i) (nI j) (nI left) (fun s_self v7 => f_Md_takeRule_343 N KB kx s_self (nI r) (nI i) (nI j) (nI left) v7) N μ1 0 → ∃ μ1, Rs G a r i j μ1 ∧ Fq (mO (grs G r) i j) (grs G r) μ μ1 ∧ (∀ k, k < (vl (gry G r)).length - 1 → μ1 11 k = nI (e k)) ∧ MA μ1 (grs G r) (mO (grs G r) i j) (fun x => A x ∨ Cv G a r i j left (val left e ((vl (gry G r)).length - 1) + 1) x) ∧ X = l_Md_takeRule_306 N (nI r) (nI i) (nI j) (nI left) (fun s_self v7 => f_Md_takeRule_343 N KB kx s_self (nI r) (nI i) (nI j) (nI left) v7) N μ1 0 := by
    intro μ1 x1 x2 x3 x4 x5 x6
    refine ⟨μ1, x1, x2, x3, x4.congr (fun x => ?_), x6⟩
    rw [Cv_next hl hb x]
    constructor
    · rintro (q | q)
      · exact Or.inl q
      · exact Or.inr (Or.inl q)
    · rintro (q | q | ⟨q, _⟩)
      · exact Or.inl q
      · exact Or.inr q
      · exact absurd q x5
  -- where the lengths are right
  have way : ∀ μ5, Rs G a r i j μ5 → Fq (mO (grs G r) i j) (grs G r) μ μ5 → (∀ k, k < (vl (gry G r)).length - 1 → μ5 11 k = nI (e k)) → (∀ q, q < (vl (gry G r)).length → 1 ≤ ex left ((vl (gry G r)).length - 1) e q ∧ ex left ((vl (gry G r)).length - 1) e q ≤ 12) → (∀ q, q < (vl (gry G r)).length → μ5 11 q = nI (ex left ((vl (gry G r)).length - 1) e q)) → MA μ5 (grs G r) (mO (grs G r) i j) (fun x => A x ∨ Cv G a r i j left (val left e ((vl (gry G r)).length - 1)) x) → ((vl (gry G r)).length = 0 ∨ sm e ((vl (gry G r)).length - 1) < left) → X = f_Md_takeRule_286 N KB kx μ5 (nI r) (nI i) (nI j) (nI left) → ∃ μ1, Rs G a r i j μ1 ∧ Fq (mO (grs G r) i j) (grs G r) μ μ1 ∧ (∀ k, k < (vl (gry G r)).length - 1 → μ1 11 k = nI (e k)) ∧ MA μ1 (grs G r) (mO (grs G r) i j) (fun x => A x ∨ Cv G a r i j left (val left e ((vl (gry G r)).length - 1) + 1) x) ∧ X = l_Md_takeRule_306 N (nI r) (nI i) (nI j) (nI left) (fun s_self v7 => f_Md_takeRule_343 N KB kx s_self (nI r) (nI i) (nI j) (nI left) v7) N μ1 0 := by
    intro μ5 x1 x2 x3 x4 x5 x6 x7 x8
    obtain ⟨μ1, c, y1, y2, y3, y4, y5⟩ := q_rule_286 (N := N) (by omega) hr hu hij hj x1 x4 x5 x6 (fun hcu dd hdd => by
      rintro (q | ⟨f, f1, f2, f3, f4, dd', f5, f6⟩)
      · exact hd _ ⟨_, dd, (Cu_spl hcu).1, hdd, rfl⟩ q
      · injection f6 with _ f6
        have hgg := (Pr_pre hR hdd f5 (a := []) (b := []) (by rw [f6])).2.1
        have heq : ∀ k, k < (vl (gry G r)).length - 1 → e k = f k := by
          intro k hk
          have h1 := (Cu_spl hcu).2 k (by omega)
          have h2 := (Cu_spl f4).2 k (by omega)
          rw [hgg] at h1
          rw [← h2] at h1
          unfold ex at h1
          rw [if_neg (by omega), if_neg (by omega)] at h1
          exact h1
        rw [val_congr _ heq] at f2
        omega)
    refine ⟨μ1, y2, x2.trans y3, fun k hk => by rw [y4 k]; exact x3 k hk, y5.congr (fun x => ?_), ?_⟩
    · rw [Cv_next hl hb x]
      constructor
      · rintro ((q | q) | ⟨q, q2⟩)
        · exact Or.inl q
        · exact Or.inr (Or.inl q)
        · exact Or.inr (Or.inr ⟨x7, q, q2⟩)
      · rintro (q | q | ⟨_, q, q2⟩)
        · exact Or.inl (Or.inl q)
        · exact Or.inl (Or.inr q)
        · exact Or.inr ⟨q, q2⟩
    · rw [x8]
      unfold f_Md_takeRule_286
      rcases y1 with ⟨_, y1⟩ | ⟨μ2, _, y1, y6⟩
      · rw [y1, b2_some, if_pos rfl]
      · rw [y1, b2_some, if_neg (by decide), y6, b1_some]
  unfold f_Md_takeRule_249 at step
  rw [h25] at step
  by_cases m0 : (vl (gry G r)).length = 0
  · rw [m0, if_pos (of_eq_true (c_le0_t rfl)), if_pos nI_0] at step
    exact way μ hS (Fq.refl _ _ _) h11 (fun q hq => by omega) (fun q hq => by omega) hA (Or.inl m0) step
  · rw [if_neg (of_eq_false (c_le0 (by omega) (by omega))), n_sub1 (by omega), ck_n (by omega) (by omega), nm_d, nI_clamp (by omega), st2_aj _ _ _ _ (by decide), h25, if_neg (nI_ne0 (by omega) (by omega))] at step
    have fq5 : Fq (mO (grs G r) i j) (grs G r) μ (st2 μ 11 ((vl (gry G r)).length - 1) (nI left - nI (sm e ((vl (gry G r)).length - 1)))) := Fq.of (fun b b11 _ => st2_a _ _ _ b11)
    have hS5 := Rs.fq hS6 hij hj hS fq5
    have h115 : ∀ k, k < (vl (gry G r)).length - 1 → st2 μ 11 ((vl (gry G r)).length - 1) (nI left - nI (sm e ((vl (gry G r)).length - 1))) 11 k = nI (e k) := fun k hk => by rw [st2_k _ _ _ (by omega)]; exact h11 k hk
    have hA5 : MA (st2 μ 11 ((vl (gry G r)).length - 1) (nI left - nI (sm e ((vl (gry G r)).length - 1)))) (grs G r) (mO (grs G r) i j) (fun x => A x ∨ Cv G a r i j left (val left e ((vl (gry G r)).length - 1)) x) := hA.of (st2_a _ _ _ (by decide)) (st2_a _ _ _ (by decide)) (st2_a _ _ _ (by decide))
    by_cases c : left ≤ sm e ((vl (gry G r)).length - 1)
    · rw [if_pos (nI_le c (by omega))] at step
      exact noWay _ hS5 fq5 h115 hA5 (by omega) step
    · rw [if_neg (nI_ge (by omega) (by omega))] at step
      refine way _ hS5 fq5 h115 (fun q hq => ?_) (fun q hq => ?_) hA5 (Or.inr (by omega)) step
      · unfold ex
        by_cases q2 : q = (vl (gry G r)).length - 1
        · rw [if_pos q2]
          omega
        · rw [if_neg q2]
          have := hb q (by omega)
          omega
      · unfold ex
        by_cases q2 : q = (vl (gry G r)).length - 1
        · rw [if_pos q2, q2, st2_s, n_sub (by omega)]
        · rw [if_neg q2]
          exact h115 q (by omega)
theorem q_rule_209 {N : Nat} (hN : 2000 ≤ N) {G : Gm} {a : Nat → Int32} {r i j left : Nat} (hG : GOK G) (hr : r < gR G) (hu : ¬ isU G r) (hij : i < j) (hj : j ≤ 12) (hl12 : left ≤ 12) (hl : 1 ≤ left ∨ (vl (gry G r)).length = 0) {A : List Int32 → Prop} (hd : ∀ x, Tr G r (sg a i j) x → ¬ A x) :
    ∀ (d n : Nat) (μ : Nat → Nat → Int32) (e : Nat → Nat), val left e ((vl (gry G r)).length - 1) + d + 1 = left ^ ((vl (gry G r)).length - 1) → d + 1 < n → Rs G a r i j μ → (∀ k, k < (vl (gry G r)).length - 1 → 1 ≤ e k ∧ e k ≤ left) → (∀ k, k < (vl (gry G r)).length - 1 → μ 11 k = nI (e k)) → MA μ (grs G r) (mO (grs G r) i j) (fun x => A x ∨ Cv G a r i j left (val left e ((vl (gry G r)).length - 1)) x) →
      ∃ μ', Rs G a r i j μ' ∧ Fq (mO (grs G r) i j) (grs G r) μ μ' ∧ MA μ' (grs G r) (mO (grs G r) i j) (fun x => A x ∨ Cv G a r i j left (left ^ ((vl (gry G r)).length - 1)) x) ∧ l_Md_takeRule_209 N (nI r) (nI i) (nI j) (nI left) (fun s_self => f_Md_takeRule_380 N s_self) n μ 1 = some μ' := by
  have hM := vl_le4 hG hr
  have hS6 := hG.1
  intro d
  induction d with
  | zero =>
    intro n μ e hv hn hS hb h11 hA
    obtain ⟨n, rfl⟩ : ∃ m, n = m + 2 := ⟨n - 2, by omega⟩
    obtain ⟨μ1, x1, x2, x3, x4, x5⟩ := q_rule_iter hN hG hr hu hij hj hl12 hl hd hS hb h11 hA (l_Md_takeRule_209 N (nI r) (nI i) (nI j) (nI left) (fun s_self => f_Md_takeRule_380 N s_self) (n + 1)) (fun s_self => f_Md_takeRule_380 N s_self)
    obtain ⟨μ2, k', y1, y2, y3, y4, y5, y6⟩ := q_rule_306 (N := N) hM hl12 hb (nI r) (nI i) (nI j) (fun s_self v7 => f_Md_takeRule_343 N (l_Md_takeRule_209 N (nI r) (nI i) (nI j) (nI left) (fun s_self => f_Md_takeRule_380 N s_self) (n + 1)) (fun s_self => f_Md_takeRule_380 N s_self) s_self (nI r) (nI i) (nI j) (nI left) v7) ((vl (gry G r)).length - 1) 0 N μ1 (by omega) (by omega) x1.2.1 (fun z hz => by rw [if_neg (by omega)]; exact x3 z hz) (fun z hz => by omega)
    have fq2 : Fq (mO (grs G r) i j) (grs G r) μ1 μ2 := Fq.of (fun b b11 _ => y2 b b11)
    rw [show val left e ((vl (gry G r)).length - 1) + 1 = left ^ ((vl (gry G r)).length - 1) by omega] at x4
    have hk : k' = (vl (gry G r)).length - 1 := by
      rcases y5 with y5 | ⟨y5, y7⟩
      · exact y5
      · exfalso
        have hl1 : 1 ≤ left := by
          rcases hl with hl | hl
          · exact hl
          · omega
        have hbk := hb k' y5
        have hc := val_carry hl1 (e := e) (e' := fun z => if z < k' then 1 else e z) (k := k') (fun z hz => ⟨y4 z hz, by simp [hz]⟩) ((vl (gry G r)).length - 1) (by omega) (fun z z1 z2 => by
          show (if z < k' then 1 else e z) = e z
          rw [if_neg (by omega)])
        have hnext := val_lt hl1 (e := fun z => if z = k' then e k' + 1 else if z < k' then 1 else e z) ((vl (gry G r)).length - 1) (fun z hz => by
          show 1 ≤ (if z = k' then e k' + 1 else if z < k' then 1 else e z) ∧ (if z = k' then e k' + 1 else if z < k' then 1 else e z) ≤ left
          by_cases q : z = k'
          · rw [if_pos q]; omega
          · rw [if_neg q]
            by_cases q2 : z < k'
            · rw [if_pos q2]; omega
            · rw [if_neg q2]; exact hb z hz)
        have hv2 : val left (fun z => if z = k' then e k' + 1 else if z < k' then 1 else e z) ((vl (gry G r)).length - 1) = val left (fun z => if z < k' then 1 else e z) ((vl (gry G r)).length - 1) + left ^ k' := by
          refine val_bump y5 ?_ ?_
          · show (if k' = k' then e k' + 1 else _) - 1 = (if k' < k' then 1 else e k') - 1 + 1
            rw [if_pos rfl, if_neg (by omega)]
            omega
          · intro z hz
            show (if z = k' then e k' + 1 else if z < k' then 1 else e z) = (if z < k' then 1 else e z)
            rw [if_neg hz]
        omega
    refine ⟨μ2, Rs.fq hS6 hij hj x1 fq2, x2.trans fq2, x4.of (y2 8 (by decide)) (y2 9 (by decide)) (y2 16 (by decide)), ?_⟩
    show f_Md_takeRule_209 N (l_Md_takeRule_209 N (nI r) (nI i) (nI j) (nI left) (fun s_self => f_Md_takeRule_380 N s_self) (n + 1)) (fun s_self => f_Md_takeRule_380 N s_self) μ (nI r) (nI i) (nI j) (nI left) 1 = some μ2
    rw [nI_0] at y6
    rw [x5, y6]
    have h25 : μ2 0 25 = nI (vl (gry G r)).length := by rw [y2 0 (by decide)]; exact x1.2.1
    unfold f_Md_takeRule_343
    rw [h25, nI_1, if_pos (nI_le (by omega) (by omega))]
    unfold f_Md_takeRule_359
    rw [if_pos rfl]
    unfold l_Md_takeRule_209 f_Md_takeRule_209
    rw [if_pos rfl]
    rfl
  | succ d ih =>
    intro n μ e hv hn hS hb h11 hA
    obtain ⟨n, rfl⟩ : ∃ m, n = m + 1 := ⟨n - 1, by omega⟩
    obtain ⟨μ1, x1, x2, x3, x4, x5⟩ := q_rule_iter hN hG hr hu hij hj hl12 hl hd hS hb h11 hA (l_Md_takeRule_209 N (nI r) (nI i) (nI j) (nI left) (fun s_self => f_Md_takeRule_380 N s_self) n) (fun s_self => f_Md_takeRule_380 N s_self)
    obtain ⟨μ2, k', y1, y2, y3, y4, y5, y6⟩ := q_rule_306 (N := N) hM hl12 hb (nI r) (nI i) (nI j) (fun s_self v7 => f_Md_takeRule_343 N (l_Md_takeRule_209 N (nI r) (nI i) (nI j) (nI left) (fun s_self => f_Md_takeRule_380 N s_self) n) (fun s_self => f_Md_takeRule_380 N s_self) s_self (nI r) (nI i) (nI j) (nI left) v7) ((vl (gry G r)).length - 1) 0 N μ1 (by omega) (by omega) x1.2.1 (fun z hz => by rw [if_neg (by omega)]; exact x3 z hz) (fun z hz => by omega)
    have hl1 : 1 ≤ left := by
      rcases hl with hl | hl
      · exact hl
      · rw [hl] at hv
        simp [val] at hv
    have hc := val_carry hl1 (e := e) (e' := fun z => if z < k' then 1 else e z) (k := k') (fun z hz => ⟨y4 z hz, by simp [hz]⟩) ((vl (gry G r)).length - 1) (by omega) (fun z z1 z2 => by
      show (if z < k' then 1 else e z) = e z
      rw [if_neg (by omega)])
    have hk : k' < (vl (gry G r)).length - 1 ∧ e k' ≠ left := by
      rcases y5 with y5 | y5
      · exfalso
        rw [y5] at hc
        omega
      · exact y5
    have hbk := hb k' hk.1
    have hv2 : val left (fun z => if z = k' then e k' + 1 else if z < k' then 1 else e z) ((vl (gry G r)).length - 1) = val left (fun z => if z < k' then 1 else e z) ((vl (gry G r)).length - 1) + left ^ k' := by
      refine val_bump hk.1 ?_ ?_
      · show (if k' = k' then e k' + 1 else _) - 1 = (if k' < k' then 1 else e k') - 1 + 1
        rw [if_pos rfl, if_neg (by omega)]
        omega
      · intro z hz
        show (if z = k' then e k' + 1 else if z < k' then 1 else e z) = (if z < k' then 1 else e z)
        rw [if_neg hz]
    have hbox : ∀ k, k < (vl (gry G r)).length - 1 → 1 ≤ (fun z => if z = k' then e k' + 1 else if z < k' then 1 else e z) k ∧ (fun z => if z = k' then e k' + 1 else if z < k' then 1 else e z) k ≤ left := by
      intro z hz
      show 1 ≤ (if z = k' then e k' + 1 else if z < k' then 1 else e z) ∧ (if z = k' then e k' + 1 else if z < k' then 1 else e z) ≤ left
      by_cases q : z = k'
      · rw [if_pos q]; omega
      · rw [if_neg q]
        by_cases q2 : z < k'
        · rw [if_pos q2]; omega
        · rw [if_neg q2]; exact hb z hz
    have ek : μ2 11 k' = nI (e k') := by rw [y3 k' hk.1, if_neg (by omega)]
    have fq3 : Fq (mO (grs G r) i j) (grs G r) μ1 (st2 μ2 11 k' (nI (e k' + 1))) := Fq.of (fun b b11 _ => by rw [st2_a _ _ _ b11, y2 b b11])
    obtain ⟨μ', z1, z2, z3, z4⟩ := ih n (st2 μ2 11 k' (nI (e k' + 1))) (fun z => if z = k' then e k' + 1 else if z < k' then 1 else e z) (by rw [hv2]; omega) (by omega) (Rs.fq hS6 hij hj x1 fq3) hbox (fun z hz => by
      show _ = nI (if z = k' then e k' + 1 else if z < k' then 1 else e z)
      by_cases q : z = k'
      · subst q
        rw [st2_s, if_pos rfl]
      · rw [st2_k _ _ _ q, if_neg q]
        exact y3 z hz) (by
      have hvv : val left (fun z => if z = k' then e k' + 1 else if z < k' then 1 else e z) ((vl (gry G r)).length - 1) = val left e ((vl (gry G r)).length - 1) + 1 := by rw [hv2]; omega
      rw [hvv]
      exact x4.of (by rw [st2_a _ _ _ (by decide), y2 8 (by decide)]) (by rw [st2_a _ _ _ (by decide), y2 9 (by decide)]) (by rw [st2_a _ _ _ (by decide), y2 16 (by decide)]))
    refine ⟨μ', z1, (x2.trans fq3).trans z2, z3, ?_⟩
    show f_Md_takeRule_209 N (l_Md_takeRule_209 N (nI r) (nI i) (nI j) (nI left) (fun s_self => f_Md_takeRule_380 N s_self) n) (fun s_self => f_Md_takeRule_380 N s_self) μ (nI r) (nI i) (nI j) (nI left) 1 = some μ'
    rw [nI_0] at y6
    rw [x5, y6]
    have h25 : μ2 0 25 = nI (vl (gry G r)).length := by rw [y2 0 (by decide)]; exact x1.2.1
    unfold f_Md_takeRule_343
    rw [h25, nI_1, if_neg (nI_ge (by omega) (by omega))]
    unfold f_Md_takeRule_359
    rw [if_neg (by decide), ck_n (by omega) (by omega), ck_n (by omega) (by omega), nm_d, nI_clamp (by omega), ek, nI_1]
    exact z4
