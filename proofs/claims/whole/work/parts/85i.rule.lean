/-! a rule's variables, as the model writes them: firsts 13, stands 14, firstOf 15 -/
theorem idx_min : ∀ (l : List Int32) (x : Int32) (z : Nat), z < l.idxOf x → z < l.length → l.getD z 0 ≠ x
  | [], _, z, _, h => by simp at h
  | y :: ys, x, z, h, hl => by
    by_cases c : y = x
    · subst c
      rw [List.idxOf_cons_self] at h
      omega
    · have e : (y :: ys).idxOf x = ys.idxOf x + 1 := by
        rw [List.idxOf_cons]
        have q : (y == x) = false := by
          rw [beq_eq_false_iff_ne]; exact c
        rw [q]
        rfl
      rw [e] at h
      match z with
      | 0 => exact c
      | z + 1 => exact idx_min ys x z (by omega) (by simpa using hl)
theorem idx_is {l : List Int32} {x : Int32} {f : Nat} (hf : f < l.length) (h1 : l.getD f 0 = x) (h2 : ∀ z, z < f → l.getD z 0 ≠ x) : l.idxOf x = f := by
  have hm : x ∈ l := h1 ▸ getD_mem hf
  have hi := List.idxOf_lt_length_of_mem hm
  have e := idx_getD hm
  rcases Nat.lt_trichotomy (l.idxOf x) f with c | c | c
  · exact absurd e (h2 _ c)
  · exact c
  · exact absurd h1 (idx_min l x f c hf)
theorem q_rule_55 {N : Nat} {l : List Int32} {q : Nat} (hq : q < (vl l).length) (hM : (vl l).length ≤ 4) (v1 v2 v3 : Int32) (μ0 : Nat → Nat → Int32) (h14 : ∀ z, z ≤ q → μ0 14 z = (vl l).getD z 0) (kx : (Nat → Nat → Int32) → Option (Nat → Nat → Int32)) : ∀ (e n : Nat) (μ : Nat → Nat → Int32) (f : Nat), e ≤ q → e < n → (∀ b, b ≠ 15 → μ b = μ0 b) → (∀ z, z ≠ q → μ 15 z = μ0 15 z) → μ 15 q = nI f → e ≤ f → f ≤ q → (vl l).getD f 0 = (vl l).getD q 0 → (∀ z, e ≤ z → z < f → (vl l).getD z 0 ≠ (vl l).getD q 0) →
    ∃ μ', (∀ b, b ≠ 15 → μ' b = μ0 b) ∧ (∀ z, z ≠ q → μ' 15 z = μ0 15 z) ∧ μ' 15 q = nI (fo l q) ∧ l_Md_takeRule_55 N v1 v2 v3 (nI q) kx n μ (dn e) = kx μ' := by
  intro e
  induction e with
  | zero =>
    intro n μ f he hn h1 h2 h3 h4 h5 h6 h7
    obtain ⟨n, rfl⟩ : ∃ m, n = m + 1 := ⟨n - 1, by omega⟩
    refine ⟨μ, h1, h2, ?_, ?_⟩
    · rw [h3]
      congr 1
      exact (idx_is (by omega) h6 (fun z hz => h7 z (by omega) hz)).symm
    · unfold l_Md_takeRule_55 f_Md_takeRule_55
      rw [if_pos (of_eq_true dn_neg)]
  | succ e ih =>
    intro n μ f he hn h1 h2 h3 h4 h5 h6 h7
    obtain ⟨n, rfl⟩ : ∃ m, n = m + 1 := ⟨n - 1, by omega⟩
    obtain ⟨X, hX⟩ : ∃ X, X = l_Md_takeRule_55 N v1 v2 v3 (nI q) kx (n + 1) μ (dn (e + 1)) := ⟨_, rfl⟩
    rw [← hX]
    have step : X = f_Md_takeRule_55 N (l_Md_takeRule_55 N v1 v2 v3 (nI q) kx n) kx μ v1 v2 v3 (nI q) (dn (e + 1)) := hX
    unfold f_Md_takeRule_55 at step
    rw [dn_s, if_neg (nI_pos (by omega)), ck_n (by omega) (by omega), ck_n (by omega) (by omega), nI_clamp (by omega), nI_clamp (by omega), h1 14 (by decide), h14 e (by omega), h14 q (Nat.le_refl _), ck_n (by omega) (by omega), nm_d, nm_d, dn_m, ck_n (by omega) (by omega), ck_n (by omega) (by omega), nm_d, nm_d] at step
    by_cases c : (vl l).getD e 0 = (vl l).getD q 0
    · rw [if_pos c] at step
      obtain ⟨μ', g1, g2, g3, g4⟩ := ih n (st2 μ 15 q (nI e)) e (by omega) (by omega) (fun b hb => by rw [st2_a _ _ _ hb]; exact h1 b hb) (fun z hz => by rw [st2_k _ _ _ hz]; exact h2 z hz) (st2_s _ _ _ _) (Nat.le_refl _) (by omega) c (fun z z1 z2 => by omega)
      exact ⟨μ', g1, g2, g3, by rw [step]; exact g4⟩
    · rw [if_neg c] at step
      obtain ⟨μ', g1, g2, g3, g4⟩ := ih n (st2 μ 15 q (μ 15 q)) f (by omega) (by omega) (fun b hb => by rw [st2_a _ _ _ hb]; exact h1 b hb) (fun z hz => by rw [st2_k _ _ _ hz]; exact h2 z hz) (by rw [st2_s]; exact h3) (by omega) h5 h6 (fun z z1 z2 => by
        by_cases q' : z = e
        · rw [q']; exact c
        · exact h7 z (by omega) z2)
      exact ⟨μ', g1, g2, g3, by rw [step]; exact g4⟩
/-- the variables are written -/
def Vs (μ : Nat → Nat → Int32) (l : List Int32) (q : Nat) : Prop := (∀ z, z < q → μ 14 z = (vl l).getD z 0 ∧ μ 15 z = nI (fo l z)) ∧ μ 0 26 = nI (bd (vl l) q) ∧ ∀ k, k < bd (vl l) q → μ 13 k = nI ((vl l).idxOf ((dv l).getD k 0))
theorem q_rule_17 {N : Nat} (hN : 9 ≤ N) {r : Nat} {l : List Int32} (hM : (vl l).length ≤ 4) (v2 v3 : Int32) (μ0 : Nat → Nat → Int32) (hr : MdR μ0 r l) (kx : (Nat → Nat → Int32) → Option (Nat → Nat → Int32)) : ∀ (d q n : Nat) (μ : Nat → Nat → Int32), q + d = (vl l).length → d < n → (∀ b, b ≠ 0 → b ≠ 13 → b ≠ 14 → b ≠ 15 → μ b = μ0 b) → (∀ k, k ≠ 26 → μ 0 k = μ0 0 k) → μ0 0 25 = nI (vl l).length → Vs μ l q →
    ∃ μ', (∀ b, b ≠ 0 → b ≠ 13 → b ≠ 14 → b ≠ 15 → μ' b = μ0 b) ∧ (∀ k, k ≠ 26 → μ' 0 k = μ0 0 k) ∧ Vs μ' l (vl l).length ∧ l_Md_takeRule_17 N (nI r) v2 v3 kx n μ (nI q) = kx μ' := by
  intro d
  induction d with
  | zero =>
    intro q n μ hq hn h1 h2 h25 hV
    obtain ⟨n, rfl⟩ : ∃ m, n = m + 1 := ⟨n - 1, by omega⟩
    have : q = (vl l).length := by omega
    subst this
    refine ⟨μ, h1, h2, hV, ?_⟩
    unfold l_Md_takeRule_17 f_Md_takeRule_17
    rw [h2 25 (by decide), h25, if_pos (nI_le (Nat.le_refl _) (by omega))]
  | succ d ih =>
    intro q n μ hq hn h1 h2 h25 hV
    obtain ⟨n, rfl⟩ : ∃ m, n = m + 1 := ⟨n - 1, by omega⟩
    have hql : q < (vl l).length := by omega
    have hrμ : MdR μ r l := ⟨hr.1, by rw [h1 3 (by decide) (by decide) (by decide) (by decide)]; exact hr.2.1, hr.2.2.1, fun k hk => by rw [h1 4 (by decide) (by decide) (by decide) (by decide)]; exact hr.2.2.2 k hk⟩
    obtain ⟨v1, v2', v3'⟩ := hV
    have hbq : bd (vl l) q ≤ q := by
      have := dv_len ((vl l).take q)
      rw [List.length_take] at this
      unfold dv at this
      unfold bd
      omega
    obtain ⟨X, hX⟩ : ∃ X, X = l_Md_takeRule_17 N (nI r) v2 v3 kx (n + 1) μ (nI q) := ⟨_, rfl⟩
    rw [← hX]
    have step : X = f_Md_takeRule_17 N (l_Md_takeRule_17 N (nI r) v2 v3 kx n) kx μ (nI r) v2 v3 (nI q) := hX
    unfold f_Md_takeRule_17 at step
    rw [h2 25 (by decide), h25, if_neg (nI_ge hql (by omega)), q_varAt hN hrμ hql, b1_some, ck_n (by omega) (by omega), nm_d, nI_clamp (by omega), ck_n (by omega) (by omega), nm_d, nm_d, show nI q - 1 = dn q from rfl] at step
    obtain ⟨μ1, g1, g2, g3, g4⟩ := q_rule_55 (N := N) hql hM (nI r) v2 v3 (st2 (st2 μ 14 q ((vl l).getD q 0)) 15 q (nI q)) (fun z hz => by
      rw [st2_aj _ _ _ _ (by decide)]
      by_cases e : z = q
      · subst e
        rw [st2_s]
      · rw [st2_k _ _ _ e]
        exact (v1 z (by omega)).1) (fun s_self => f_Md_takeRule_102 N (l_Md_takeRule_17 N (nI r) v2 v3 kx n) kx s_self (nI r) v2 v3 (nI q)) q N (st2 (st2 μ 14 q ((vl l).getD q 0)) 15 q (nI q)) q (Nat.le_refl _) (by omega) (fun _ _ => rfl) (fun _ _ => rfl) (st2_s _ _ _ _) (Nat.le_refl _) (Nat.le_refl _) rfl (fun z z1 z2 => by omega)
    rw [g4] at step
    unfold f_Md_takeRule_102 at step
    rw [ck_n (by omega) (by omega), nI_clamp (by omega), g3] at step
    have b0 : ∀ b, b ≠ 0 → b ≠ 13 → b ≠ 14 → b ≠ 15 → μ1 b = μ0 b := fun b h0 h13 h14 h15 => by rw [g1 b h15, st2_a _ _ _ h15, st2_a _ _ _ h14]; exact h1 b h0 h13 h14 h15
    have c0 : ∀ k, μ1 0 k = μ 0 k := fun k => by rw [g1 0 (by decide), st2_aj _ _ _ _ (by decide), st2_aj _ _ _ _ (by decide)]
    have c13 : ∀ k, μ1 13 k = μ 13 k := fun k => by rw [g1 13 (by decide), st2_aj _ _ _ _ (by decide), st2_aj _ _ _ _ (by decide)]
    have old : ∀ z, z < q + 1 → μ1 14 z = (vl l).getD z 0 ∧ μ1 15 z = nI (fo l z) := by
      intro z hz
      by_cases e : z = q
      · subst e
        exact ⟨by rw [g1 14 (by decide), st2_aj _ _ _ _ (by decide), st2_s], g3⟩
      · refine ⟨by rw [g1 14 (by decide), st2_aj _ _ _ _ (by decide), st2_k _ _ _ e]; exact (v1 z (by omega)).1, ?_⟩
        rw [g2 z e, st2_k _ _ _ e, st2_aj _ _ _ _ (by decide)]
        exact (v1 z (by omega)).2
    have hfq := fo_lt hql
    by_cases c : fo l q = q
    · have hnw : nw (vl l) q := by
        rw [nw_iff hql]
        rintro ⟨z, _, z2, z3⟩
        have := idx_min (vl l) ((vl l).getD q 0) z (by unfold fo at c; omega) (by omega)
        exact this z3
      obtain ⟨e1, e2⟩ := bd_new hql ⟨vl_neg (getD_mem hql), hnw⟩
      rw [if_pos (by rw [c]), c0 26, v2', ck_n (by omega) (by omega), nm_d, nI_clamp (by omega), nm_d, st2_aj _ _ _ _ (by decide), c0 26, v2', nI_1, nm_d, nI_1] at step
      obtain ⟨μ', x1, x2, x3, x4⟩ := ih (q + 1) n (st2 (st2 μ1 13 (bd (vl l) q) (nI q)) 0 26 (nI (bd (vl l) q + 1))) (by omega) (by omega) (fun b h0 h13 h14 h15 => by rw [st2_a _ _ _ h0, st2_a _ _ _ h13]; exact b0 b h0 h13 h14 h15) (fun k hk => by rw [st2_k _ _ _ hk, st2_aj _ _ _ _ (by decide), c0 k]; exact h2 k hk) h25 ⟨fun z hz => by
          rw [st2_aj _ _ _ _ (by decide), st2_aj _ _ _ _ (by decide), st2_aj _ _ _ _ (by decide), st2_aj _ _ _ _ (by decide)]
          exact old z hz, by rw [st2_s, e1], fun k hk => by
          rw [st2_aj _ _ _ _ (by decide)]
          rw [e1] at hk
          by_cases e : k = bd (vl l) q
          · subst e
            rw [st2_s]
            congr 1
            rw [dv_vl, ← e2, idx_getD (by rw [← dv_vl]; exact vl_dv (getD_mem hql))]
            exact c.symm
          · rw [st2_k _ _ _ e, c13 k]
            exact v3' k (by omega)⟩
      exact ⟨μ', x1, x2, x3, by rw [step]; exact x4⟩
    · have hnw : ¬ nw (vl l) q := by
        rw [nw_iff hql]
        intro h
        apply h
        refine ⟨fo l q, by omega, ?_, fo_same hql⟩
        have hle : ¬ q < fo l q := fun hlt => idx_min (vl l) ((vl l).getD q 0) q hlt hql rfl
        omega
      have e1 := bd_same hql (fun h => hnw h.2)
      rw [if_neg (fun h => c (nI_inj (by omega) (by omega) h)), nm_d, nI_1] at step
      obtain ⟨μ', x1, x2, x3, x4⟩ := ih (q + 1) n μ1 (by omega) (by omega) b0 (fun k hk => by rw [c0 k]; exact h2 k hk) h25 ⟨old, by rw [c0 26, e1]; exact v2', fun k hk => by
          rw [c13 k]
          rw [e1] at hk
          exact v3' k hk⟩
      exact ⟨μ', x1, x2, x3, by rw [step]; exact x4⟩
/-- sums of lengths -/
def sm (e : Nat → Nat) : Nat → Nat
  | 0 => 0
  | n + 1 => sm e n + e n
theorem sm_congr {e e' : Nat → Nat} : ∀ n, (∀ k, k < n → e k = e' k) → sm e n = sm e' n
  | 0, _ => rfl
  | n + 1, h => by
    show sm e n + e n = sm e' n + e' n
    rw [sm_congr n (fun k hk => h k (by omega)), h n (by omega)]
theorem sm_map {F : Int32 → Nat} {L : List Int32} : ∀ n, n ≤ L.length → sm (fun q => F (L.getD q 0)) n = ((L.take n).map F).sum
  | 0, _ => by simp [sm]
  | n + 1, h => by
    show sm _ n + F (L.getD n 0) = _
    rw [sm_map n (by omega), take_snoc (by omega)]
    simp
theorem fm_sum {g : Int32 → List Int32} : ∀ (l : List Int32), (l.flatMap (sub g)).length + (vl l).length = ((vl l).map (fun x => (g x).length)).sum + l.length
  | [] => rfl
  | x :: xs => by
    have ih := fm_sum (g := g) xs
    rw [List.flatMap_cons, List.length_append, List.length_cons]
    by_cases c : x < 0
    · rw [vl_cons_n c, List.length_cons, List.map_cons, List.sum_cons]
      have : sub g x = g x := by unfold sub; rw [if_pos c]
      rw [this]
      omega
    · rw [vl_cons_p c]
      have : sub g x = [x] := by unfold sub; rw [if_neg c]
      rw [this]
      simp only [List.length_cons, List.length_nil]
      omega
theorem sm_ge {e : Nat → Nat} : ∀ n, (∀ k, k < n → 1 ≤ e k) → ∀ k, k < n → e k + (n - 1) ≤ sm e n
  | 0, _, k, hk => by omega
  | n + 1, h, k, hk => by
    have hn := h n (by omega)
    show e k + (n + 1 - 1) ≤ sm e n + e n
    have base : n ≤ sm e n := by
      have : ∀ z, z ≤ n → z ≤ sm e z := by
        intro z
        induction z with
        | zero => intro _; exact Nat.zero_le _
        | succ z ihz =>
          intro hz
          have := ihz (by omega)
          have := h z (by omega)
          show z + 1 ≤ sm e z + e z
          omega
      exact this n (Nat.le_refl _)
    by_cases c : k = n
    · subst c
      omega
    · have := sm_ge n (fun z hz => h z (by omega)) k (by omega)
      omega
