/-- one call of the script: from related states to related states, with fuel enough -/
def CaseOK (Rel : (Nat → Nat → Int32) → (Nat → Nat → Int32) → (Nat → Nat → Int32) → (Nat → Nat → Int32) → (Nat → Nat → Int32) → (Nat → Nat → Int32) → (Nat → Nat → Int32) → (Nat → Nat → Int32) → (Nat → Nat → Int32) → (Nat → Nat → Int32) → (Nat → Nat → Int32) → (Nat → Nat → Int32) → (Nat → Nat → Int32) → (Nat → Int64) → Prop) (F : Nat → Nat → (Nat → Int32) → Nat → Nat → Nat → Nat → Nat → Nat → ((Nat → Nat → Int32) → (Nat → Nat → Int32) → (Nat → Nat → Int32) → (Nat → Nat → Int32) → (Nat → Nat → Int32) → (Nat → Nat → Int32) → (Nat → Nat → Int32) → (Nat → Nat → Int32) → (Nat → Nat → Int32) → (Nat → Nat → Int32) → (Nat → Nat → Int32) → (Nat → Nat → Int32) → (Nat → Nat → Int32) → (Nat → Int64) → Int32 → Option Int32) → ((Nat → Nat → Int32) → (Nat → Nat → Int32) → (Nat → Nat → Int32) → (Nat → Nat → Int32) → (Nat → Nat → Int32) → (Nat → Nat → Int32) → (Nat → Nat → Int32) → (Nat → Nat → Int32) → (Nat → Nat → Int32) → (Nat → Nat → Int32) → (Nat → Nat → Int32) → (Nat → Nat → Int32) → (Nat → Nat → Int32) → (Nat → Int64) → Option Int32) → (Nat → Nat → Int32) → (Nat → Nat → Int32) → (Nat → Nat → Int32) → (Nat → Nat → Int32) → (Nat → Nat → Int32) → (Nat → Nat → Int32) → (Nat → Nat → Int32) → (Nat → Nat → Int32) → (Nat → Nat → Int32) → (Nat → Nat → Int32) → (Nat → Nat → Int32) → (Nat → Nat → Int32) → (Nat → Nat → Int32) → (Nat → Int64) → Int32 → Option Int32) : Prop := ∀ (s_x s_grammar s_chart s_table s_grower s_grown s_joined s_short s_row s_tape s_least s_next s_m : Nat → Nat → Int32) (s_mleast : Nat → Int64), Rel s_x s_grammar s_chart s_table s_grower s_grown s_joined s_short s_row s_tape s_least s_next s_m s_mleast → ∀ (a1 a2 a3 : Int32) (N : Nat), NB ≤ N → ∃ (t_x t_grammar t_chart t_table t_grower t_grown t_joined t_short t_row t_tape t_least t_next t_m : Nat → Nat → Int32) (t_mleast : Nat → Int64), Rel t_x t_grammar t_chart t_table t_grower t_grown t_joined t_short t_row t_tape t_least t_next t_m t_mleast ∧ ∀ (L : Nat) (xs : Nat → Int32) (kb : (Nat → Nat → Int32) → (Nat → Nat → Int32) → (Nat → Nat → Int32) → (Nat → Nat → Int32) → (Nat → Nat → Int32) → (Nat → Nat → Int32) → (Nat → Nat → Int32) → (Nat → Nat → Int32) → (Nat → Nat → Int32) → (Nat → Nat → Int32) → (Nat → Nat → Int32) → (Nat → Nat → Int32) → (Nat → Nat → Int32) → (Nat → Int64) → Int32 → Option Int32) (kx : (Nat → Nat → Int32) → (Nat → Nat → Int32) → (Nat → Nat → Int32) → (Nat → Nat → Int32) → (Nat → Nat → Int32) → (Nat → Nat → Int32) → (Nat → Nat → Int32) → (Nat → Nat → Int32) → (Nat → Nat → Int32) → (Nat → Nat → Int32) → (Nat → Nat → Int32) → (Nat → Nat → Int32) → (Nat → Nat → Int32) → (Nat → Int64) → Option Int32) (v3 : Int32), vp_in (v3 + 1) L → vp_in (v3 + 2) L → vp_in (v3 + 3) L → xs (Int32.toNatClampNeg (v3 + 1)) = a1 → xs (Int32.toNatClampNeg (v3 + 2)) = a2 → xs (Int32.toNatClampNeg (v3 + 3)) = a3 → F N L xs 12 12 12 200 150 150 kb kx s_x s_grammar s_chart s_table s_grower s_grown s_joined s_short s_row s_tape s_least s_next s_m s_mleast v3 = kb t_x t_grammar t_chart t_table t_grower t_grown t_joined t_short t_row t_tape t_least t_next t_m t_mleast (v3 + 4)
theorem lw_t {L : Nat} (h : L ≤ 2048) : (nI L - 4).toInt = (L : Int) - 4 := by
  rw [show (4 : Int32) = nI 4 from rfl]
  exact pk_sub_toInt (by omega) (by omega)
theorem lw_lt {L i : Nat} (hL : L ≤ 2048) (hi : i ≤ 512) (h : L < 4 * i + 4) : nI L - 4 < nI (4 * i) := by
  rw [Int32.lt_iff_toInt_lt, lw_t hL, nI_toInt (by omega)]
  omega
theorem lw_nlt {L i : Nat} (hL : L ≤ 2048) (hi : i ≤ 512) (h : 4 * i + 4 ≤ L) : ¬ nI L - 4 < nI (4 * i) := by
  rw [Int32.lt_iff_toInt_lt, lw_t hL, nI_toInt (by omega)]
  omega
set_option maxHeartbeats 4000000 in
set_option maxRecDepth 100000 in
theorem law_loop (Rel : (Nat → Nat → Int32) → (Nat → Nat → Int32) → (Nat → Nat → Int32) → (Nat → Nat → Int32) → (Nat → Nat → Int32) → (Nat → Nat → Int32) → (Nat → Nat → Int32) → (Nat → Nat → Int32) → (Nat → Nat → Int32) → (Nat → Nat → Int32) → (Nat → Nat → Int32) → (Nat → Nat → Int32) → (Nat → Nat → Int32) → (Nat → Int64) → Prop) (h_sort : CaseOK Rel f_law_128) (h_variable : CaseOK Rel f_law_141) (h_begin : CaseOK Rel f_law_164) (h_put : CaseOK Rel f_law_187) (h_close : CaseOK Rel f_law_210) (h_token : CaseOK Rel f_law_223) (h_drop : CaseOK Rel f_law_246) (h_trees : CaseOK Rel f_law_259) (h_size : CaseOK Rel f_law_302) (h_code : CaseOK Rel f_law_335) (h_stretches : CaseOK Rel f_law_378) (h_type : CaseOK Rel f_law_411) (h_clear : CaseOK Rel f_law_434) (h_grow : CaseOK Rel f_law_447) (h_place : CaseOK Rel f_law_470) (h_shortest : CaseOK Rel f_law_483) (h_about : CaseOK Rel f_law_506) (h_symbol : CaseOK Rel f_law_539) (h_count : CaseOK Rel f_law_572) (h_check : CaseOK Rel f_law_595) {L N : Nat} (hN : NB ≤ N) (hL : L ≤ 2048) (xs : Nat → Int32) : ∀ (d i : Nat) (s_x s_grammar s_chart s_table s_grower s_grown s_joined s_short s_row s_tape s_least s_next s_m : Nat → Nat → Int32) (s_mleast : Nat → Int64), (4 * i + 4 * d ≤ L ∧ L < 4 * i + 4 * d + 4) → Rel s_x s_grammar s_chart s_table s_grower s_grown s_joined s_short s_row s_tape s_least s_next s_m s_mleast → ∀ n, d < n → l_law_18 N L xs 12 12 12 200 150 150 (fun s_x s_grammar s_chart s_table s_grower s_grown s_joined s_short s_row s_tape s_least s_next s_m s_mleast => f_law_614 N L xs 12 12 12 200 150 150 s_x s_grammar s_chart s_table s_grower s_grown s_joined s_short s_row s_tape s_least s_next s_m s_mleast) n s_x s_grammar s_chart s_table s_grower s_grown s_joined s_short s_row s_tape s_least s_next s_m s_mleast (nI (4 * i)) = some 1 := by
  intro d
  induction d with
  | zero =>
    intro i s_x s_grammar s_chart s_table s_grower s_grown s_joined s_short s_row s_tape s_least s_next s_m s_mleast hi hR
    intro n hn
    obtain ⟨k, rfl⟩ : ∃ k, n = k + 1 := ⟨n - 1, by omega⟩
    unfold l_law_18 f_law_18
    rw [if_pos (lw_lt (by omega) (by omega) (by omega))]
    rfl
  | succ d ih =>
    intro i s_x s_grammar s_chart s_table s_grower s_grown s_joined s_short s_row s_tape s_least s_next s_m s_mleast hi hR
    have go : ∀ (F : Nat → Nat → (Nat → Int32) → Nat → Nat → Nat → Nat → Nat → Nat → ((Nat → Nat → Int32) → (Nat → Nat → Int32) → (Nat → Nat → Int32) → (Nat → Nat → Int32) → (Nat → Nat → Int32) → (Nat → Nat → Int32) → (Nat → Nat → Int32) → (Nat → Nat → Int32) → (Nat → Nat → Int32) → (Nat → Nat → Int32) → (Nat → Nat → Int32) → (Nat → Nat → Int32) → (Nat → Nat → Int32) → (Nat → Int64) → Int32 → Option Int32) → ((Nat → Nat → Int32) → (Nat → Nat → Int32) → (Nat → Nat → Int32) → (Nat → Nat → Int32) → (Nat → Nat → Int32) → (Nat → Nat → Int32) → (Nat → Nat → Int32) → (Nat → Nat → Int32) → (Nat → Nat → Int32) → (Nat → Nat → Int32) → (Nat → Nat → Int32) → (Nat → Nat → Int32) → (Nat → Nat → Int32) → (Nat → Int64) → Option Int32) → (Nat → Nat → Int32) → (Nat → Nat → Int32) → (Nat → Nat → Int32) → (Nat → Nat → Int32) → (Nat → Nat → Int32) → (Nat → Nat → Int32) → (Nat → Nat → Int32) → (Nat → Nat → Int32) → (Nat → Nat → Int32) → (Nat → Nat → Int32) → (Nat → Nat → Int32) → (Nat → Nat → Int32) → (Nat → Nat → Int32) → (Nat → Int64) → Int32 → Option Int32), CaseOK Rel F → ∀ k, d < k → F N L xs 12 12 12 200 150 150 (l_law_18 N L xs 12 12 12 200 150 150 (fun s_x s_grammar s_chart s_table s_grower s_grown s_joined s_short s_row s_tape s_least s_next s_m s_mleast => f_law_614 N L xs 12 12 12 200 150 150 s_x s_grammar s_chart s_table s_grower s_grown s_joined s_short s_row s_tape s_least s_next s_m s_mleast) k) (fun s_x s_grammar s_chart s_table s_grower s_grown s_joined s_short s_row s_tape s_least s_next s_m s_mleast => f_law_614 N L xs 12 12 12 200 150 150 s_x s_grammar s_chart s_table s_grower s_grown s_joined s_short s_row s_tape s_least s_next s_m s_mleast) s_x s_grammar s_chart s_table s_grower s_grown s_joined s_short s_row s_tape s_least s_next s_m s_mleast (nI (4 * i)) = some 1 := by
      intro F hF k hk
      obtain ⟨t_x, t_grammar, t_chart, t_table, t_grower, t_grown, t_joined, t_short, t_row, t_tape, t_least, t_next, t_m, t_mleast, hR2, h1⟩ := hF s_x s_grammar s_chart s_table s_grower s_grown s_joined s_short s_row s_tape s_least s_next s_m s_mleast hR (xs (Int32.toNatClampNeg (nI (4 * i) + 1))) (xs (Int32.toNatClampNeg (nI (4 * i) + 2))) (xs (Int32.toNatClampNeg (nI (4 * i) + 3))) N hN
      have h2 := ih (i + 1) t_x t_grammar t_chart t_table t_grower t_grown t_joined t_short t_row t_tape t_least t_next t_m t_mleast (by omega) hR2
      rw [h1 L xs _ _ (nI (4 * i)) (by rw [nI_1]; exact vp_in_nI (by omega) (by omega)) (by rw [show (2 : Int32) = nI 2 from rfl, nI_add]; exact vp_in_nI (by omega) (by omega)) (by rw [show (3 : Int32) = nI 3 from rfl, nI_add]; exact vp_in_nI (by omega) (by omega)) rfl rfl rfl]
      rw [show (4 : Int32) = nI 4 from rfl, nI_add, show 4 * i + 4 = 4 * (i + 1) by omega]
      exact h2 k hk
    have g_sort := go f_law_128 h_sort
    have g_variable := go f_law_141 h_variable
    have g_begin := go f_law_164 h_begin
    have g_put := go f_law_187 h_put
    have g_close := go f_law_210 h_close
    have g_token := go f_law_223 h_token
    have g_drop := go f_law_246 h_drop
    have g_trees := go f_law_259 h_trees
    have g_size := go f_law_302 h_size
    have g_code := go f_law_335 h_code
    have g_stretches := go f_law_378 h_stretches
    have g_type := go f_law_411 h_type
    have g_clear := go f_law_434 h_clear
    have g_grow := go f_law_447 h_grow
    have g_place := go f_law_470 h_place
    have g_shortest := go f_law_483 h_shortest
    have g_about := go f_law_506 h_about
    have g_symbol := go f_law_539 h_symbol
    have g_count := go f_law_572 h_count
    have g_check := go f_law_595 h_check
    have gd := ih (i + 1) s_x s_grammar s_chart s_table s_grower s_grown s_joined s_short s_row s_tape s_least s_next s_m s_mleast (by omega) hR
    intro n hn
    obtain ⟨k, rfl⟩ : ∃ k, n = k + 1 := ⟨n - 1, by omega⟩
    unfold l_law_18 f_law_18
    rw [if_neg (lw_nlt (by omega) (by omega) (by omega)), ck_i (vp_in_nI (by omega) (by omega))]
    by_cases c0 : (xs (Int32.toNatClampNeg (nI (4 * i))) &&& 31) = 0
    · rw [if_pos c0]
      exact g_sort k (by omega)
    rw [if_neg c0]
    by_cases c1 : (xs (Int32.toNatClampNeg (nI (4 * i))) &&& 31) = 1
    · rw [if_pos c1]
      exact g_variable k (by omega)
    rw [if_neg c1]
    by_cases c2 : (xs (Int32.toNatClampNeg (nI (4 * i))) &&& 31) = 2
    · rw [if_pos c2]
      exact g_begin k (by omega)
    rw [if_neg c2]
    by_cases c3 : (xs (Int32.toNatClampNeg (nI (4 * i))) &&& 31) = 3
    · rw [if_pos c3]
      exact g_put k (by omega)
    rw [if_neg c3]
    by_cases c4 : (xs (Int32.toNatClampNeg (nI (4 * i))) &&& 31) = 4
    · rw [if_pos c4]
      exact g_close k (by omega)
    rw [if_neg c4]
    by_cases c5 : (xs (Int32.toNatClampNeg (nI (4 * i))) &&& 31) = 5
    · rw [if_pos c5]
      exact g_token k (by omega)
    rw [if_neg c5]
    by_cases c6 : (xs (Int32.toNatClampNeg (nI (4 * i))) &&& 31) = 6
    · rw [if_pos c6]
      exact g_drop k (by omega)
    rw [if_neg c6]
    by_cases c7 : (xs (Int32.toNatClampNeg (nI (4 * i))) &&& 31) = 7
    · rw [if_pos c7]
      exact g_trees k (by omega)
    rw [if_neg c7]
    by_cases c8 : (xs (Int32.toNatClampNeg (nI (4 * i))) &&& 31) = 8
    · rw [if_pos c8]
      exact g_size k (by omega)
    rw [if_neg c8]
    by_cases c9 : (xs (Int32.toNatClampNeg (nI (4 * i))) &&& 31) = 9
    · rw [if_pos c9]
      exact g_code k (by omega)
    rw [if_neg c9]
    by_cases c10 : (xs (Int32.toNatClampNeg (nI (4 * i))) &&& 31) = 10
    · rw [if_pos c10]
      exact g_stretches k (by omega)
    rw [if_neg c10]
    by_cases c11 : (xs (Int32.toNatClampNeg (nI (4 * i))) &&& 31) = 11
    · rw [if_pos c11]
      exact g_type k (by omega)
    rw [if_neg c11]
    by_cases c12 : (xs (Int32.toNatClampNeg (nI (4 * i))) &&& 31) = 12
    · rw [if_pos c12]
      exact g_clear k (by omega)
    rw [if_neg c12]
    by_cases c13 : (xs (Int32.toNatClampNeg (nI (4 * i))) &&& 31) = 13
    · rw [if_pos c13]
      exact g_grow k (by omega)
    rw [if_neg c13]
    by_cases c14 : (xs (Int32.toNatClampNeg (nI (4 * i))) &&& 31) = 14
    · rw [if_pos c14]
      exact g_place k (by omega)
    rw [if_neg c14]
    by_cases c15 : (xs (Int32.toNatClampNeg (nI (4 * i))) &&& 31) = 15
    · rw [if_pos c15]
      exact g_shortest k (by omega)
    rw [if_neg c15]
    by_cases c16 : (xs (Int32.toNatClampNeg (nI (4 * i))) &&& 31) = 16
    · rw [if_pos c16]
      exact g_about k (by omega)
    rw [if_neg c16]
    by_cases c17 : (xs (Int32.toNatClampNeg (nI (4 * i))) &&& 31) = 17
    · rw [if_pos c17]
      exact g_symbol k (by omega)
    rw [if_neg c17]
    by_cases c18 : (xs (Int32.toNatClampNeg (nI (4 * i))) &&& 31) = 18
    · rw [if_pos c18]
      exact g_count k (by omega)
    rw [if_neg c18]
    by_cases c19 : (xs (Int32.toNatClampNeg (nI (4 * i))) &&& 31) = 19
    · rw [if_pos c19]
      exact g_check k (by omega)
    rw [if_neg c19]
    rw [nm_d, show (4 : Int32) = nI 4 from rfl, nI_add, show 4 * i + 4 = 4 * (i + 1) by omega]
    exact gd k (by omega)
theorem pure_of (Rel : (Nat → Nat → Int32) → (Nat → Nat → Int32) → (Nat → Nat → Int32) → (Nat → Nat → Int32) → (Nat → Nat → Int32) → (Nat → Nat → Int32) → (Nat → Nat → Int32) → (Nat → Nat → Int32) → (Nat → Nat → Int32) → (Nat → Nat → Int32) → (Nat → Nat → Int32) → (Nat → Nat → Int32) → (Nat → Nat → Int32) → (Nat → Int64) → Prop) (h_sort : CaseOK Rel f_law_128) (h_variable : CaseOK Rel f_law_141) (h_begin : CaseOK Rel f_law_164) (h_put : CaseOK Rel f_law_187) (h_close : CaseOK Rel f_law_210) (h_token : CaseOK Rel f_law_223) (h_drop : CaseOK Rel f_law_246) (h_trees : CaseOK Rel f_law_259) (h_size : CaseOK Rel f_law_302) (h_code : CaseOK Rel f_law_335) (h_stretches : CaseOK Rel f_law_378) (h_type : CaseOK Rel f_law_411) (h_clear : CaseOK Rel f_law_434) (h_grow : CaseOK Rel f_law_447) (h_place : CaseOK Rel f_law_470) (h_shortest : CaseOK Rel f_law_483) (h_about : CaseOK Rel f_law_506) (h_symbol : CaseOK Rel f_law_539) (h_count : CaseOK Rel f_law_572) (h_check : CaseOK Rel f_law_595) (h0 : Rel (st2 (fun _ _ => 0) 0 8 (-1)) (fun _ _ => 0) (fun _ _ => 0) (fun _ _ => 0) (st2 (fun _ _ => 0) 0 6 (-1)) (fun _ _ => 0) (fun _ _ => 0) (fun _ _ => 0) (fun _ _ => 0) (fun _ _ => 0) (fun _ _ => 0) (fun _ _ => 0) (st2 (fun _ _ => 0) 0 13 (-1)) (fun _ => 0)) (L : Nat) (hL : L ≤ 2048) (xs : Nat → Int32) : ∃ (N : Nat) (r : Int32), law_fn N L xs = some r := by
  have hNB : 70000 ≤ NB := by unfold NB; omega
  have h1 := law_loop Rel h_sort h_variable h_begin h_put h_close h_token h_drop h_trees h_size h_code h_stretches h_type h_clear h_grow h_place h_shortest h_about h_symbol h_count h_check (Nat.le_refl NB) hL xs (L / 4) 0 (st2 (fun _ _ => 0) 0 8 (-1)) (fun _ _ => 0) (fun _ _ => 0) (fun _ _ => 0) (st2 (fun _ _ => 0) 0 6 (-1)) (fun _ _ => 0) (fun _ _ => 0) (fun _ _ => 0) (fun _ _ => 0) (fun _ _ => 0) (fun _ _ => 0) (fun _ _ => 0) (st2 (fun _ _ => 0) 0 13 (-1)) (fun _ => 0) (by omega) h0 NB (by omega)
  refine ⟨NB, 1, ?_⟩
  rw [Nat.mul_zero, nI_0] at h1
  exact h1
