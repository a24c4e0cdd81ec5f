theorem is_Rt : Cond.instantiable R_Rt 9 ∈ TB := tb_of 73 (by decide +kernel) (by decide +kernel)
theorem ini_Rt : Cond.initialized R_Rt ∈ TB := tb_of 62 (by decide +kernel) (by decide +kernel)
theorem is_Md : Cond.instantiable R_Md 36 ∈ TB := tb_of 714 (by decide +kernel) (by decide +kernel)
theorem ini_Md : Cond.initialized R_Md ∈ TB := tb_of 70 (by decide +kernel) (by decide +kernel)
theorem cl_RuleTreesLaw_7 : Cond.classLink R_RuleTreesLaw 7 R_Rt ∈ TB := tb_of 72 (by decide +kernel) (by decide +kernel)
theorem cl_RuleTreesLaw_10 : Cond.classLink R_RuleTreesLaw 10 R_Md ∈ TB := tb_of 713 (by decide +kernel) (by decide +kernel)
theorem ml_RuleTreesLaw_9 : Cond.methodLink R_RuleTreesLaw 9 ⟨"RuleTrees", "<init>", "()V"⟩ ∈ TB := tb_of 74 (by decide +kernel) (by decide +kernel)
theorem ml_RuleTreesLaw_12 : Cond.methodLink R_RuleTreesLaw 12 ⟨"RuleTreesModel", "<init>", "()V"⟩ ∈ TB := tb_of 715 (by decide +kernel) (by decide +kernel)
theorem u_Rt_init : Cond.instanceMethod y_Rt_init ∈ TB ∧ Cond.initialized y_Rt_init.cls ∈ TB ∧ Cond.code y_Rt_init b_Rt_init 1 none ∈ TB := ⟨(tb_of 75 (by decide +kernel) (by decide +kernel)), (tb_of 62 (by decide +kernel) (by decide +kernel)), k_Rt_init⟩
theorem u_Md_init : Cond.instanceMethod y_Md_init ∈ TB ∧ Cond.initialized y_Md_init.cls ∈ TB ∧ Cond.code y_Md_init b_Md_init 1 none ∈ TB := ⟨(tb_of 716 (by decide +kernel) (by decide +kernel)), (tb_of 70 (by decide +kernel) (by decide +kernel)), k_Md_init⟩
/-- the pure law: both objects new, then the script -/
def law_fn (N L : Nat) (xs : Nat → Int32) : Option Int32 := f_law_16 N L xs 12 12 12 200 150 150 (st2 (fun _ _ => 0) 0 8 (-1)) (fun _ _ => 0) (fun _ _ => 0) (fun _ _ => 0) (st2 (fun _ _ => 0) 0 6 (-1)) (fun _ _ => 0) (fun _ _ => 0) (fun _ _ => 0) (fun _ _ => 0) (fun _ _ => 0) (fun _ _ => 0) (fun _ _ => 0) (st2 (fun _ _ => 0) 0 13 (-1)) (fun _ => 0)
set_option maxHeartbeats 4000000 in
set_option maxRecDepth 100000 in
/-- THE LAW, from its entry, out of the pure law -/
theorem start_of {p : Program} {e : Env} {s : State} {m : MethodId} {below : List Frame} {meth : Method} {c : Code} (l : Launch) {b L : Nat} {xs : Nat → Int32} {N : Nat} {r : Int32} (hp : law_fn N L xs = some r) (C0 : lw_At p s m meth c b L xs) : W p l e room_1 s m #[Value.ref b] below meth c s.heap [] 0 0 (lw_Z below #[Value.ref b] s) (entryFrame m ([Value.ref b] : List Value).toArray 4) := by
  obtain ⟨hx, hb, hr, hml, hown, hts0, hX, hbl, hlocks, hgv⟩ := C0
  have hts : ∀ w ∈ w_law, w.before #[Value.ref b] s = true := by
    intro w hw
    rcases List.mem_cons.mp hw with rfl | hw
    · exact hts0 _ (List.mem_of_getElem? (i := 61) (by decide +kernel))
    · exact hts0 _ (List.mem_filter.mp hw).1
  obtain ⟨c0, i0, hKn0⟩ := u_known (C := R_Sy) (T := F_Sy) (N := 2) (n := 2) hts (in_Sy _) (hts _ (List.mem_cons_of_mem _ is_Sy))
  obtain ⟨c1, i1, hKn1⟩ := u_known (C := R_Gr) (T := F_Gr) (N := 12) (n := 12) hts (in_Gr _) (hts _ (List.mem_cons_of_mem _ is_Gr))
  obtain ⟨c2, i2, hKn2⟩ := u_known (C := R_Tt) (T := F_Tt) (N := 6) (n := 6) hts (in_Tt _) (hts _ (List.mem_cons_of_mem _ is_Tt))
  obtain ⟨c3, i3, hKn3⟩ := u_known (C := R_Ch) (T := F_Ch) (N := 12) (n := 12) hts (in_Ch _) (hts _ (List.mem_cons_of_mem _ is_Ch))
  obtain ⟨c4, i4, hKn4⟩ := u_known (C := R_Gw) (T := F_Gw) (N := 7) (n := 7) hts (in_Gw _) (hts _ (List.mem_cons_of_mem _ is_Gw))
  obtain ⟨c5, i5, hKn5⟩ := u_known (C := R_Sr) (T := F_Sr) (N := 2) (n := 2) hts (in_Sr _) (hts _ (List.mem_cons_of_mem _ is_Sr))
  obtain ⟨c6, i6, hKn6⟩ := u_known (C := R_Rt) (T := F_Rt) (N := 9) (n := 9) hts (in_Rt _) (hts _ (List.mem_cons_of_mem _ is_Rt))
  obtain ⟨c7, i7, hKn7⟩ := u_known (C := R_Md) (T := F_Md) (N := 36) (n := 36) hts (in_Md _) (hts _ (List.mem_cons_of_mem _ is_Md))
  obtain ⟨k0, kk0, co0, hf0, hc0, hk0⟩ := Cond.arrayClass_spec (hts _ (List.mem_cons_of_mem _ ac_int))
  obtain ⟨k1, kk1, co1, hf1, hc1, hk1⟩ := Cond.arrayClass_spec (hts _ (List.mem_cons_of_mem _ ac_boolean))
  obtain ⟨k2, kk2, co2, hf2, hc2, hk2⟩ := Cond.arrayClass_spec (hts _ (List.mem_cons_of_mem _ ac_long))
  obtain ⟨D, hKc⟩ : ∃ D : va_G, ∀ (k : Nat) (q : vw_C), classes[k]? = some q → u_Kn s q.1 q.2.1 q.2.2 (D.1 k) (D.2 k) := by
    refine ⟨(fun k => if k = 0 then c0 else if k = 1 then c1 else if k = 2 then c2 else if k = 3 then c3 else if k = 4 then c4 else if k = 5 then c5 else if k = 6 then c6 else c7, fun k => if k = 0 then i0 else if k = 1 then i1 else if k = 2 then i2 else if k = 3 then i3 else if k = 4 then i4 else if k = 5 then i5 else if k = 6 then i6 else i7), ?_⟩
    intro k q hq
    match k, hq with
    | 0, hq => cases hq; exact hKn0
    | 1, hq => cases hq; exact hKn1
    | 2, hq => cases hq; exact hKn2
    | 3, hq => cases hq; exact hKn3
    | 4, hq => cases hq; exact hKn4
    | 5, hq => cases hq; exact hKn5
    | 6, hq => cases hq; exact hKn6
    | 7, hq => cases hq; exact hKn7
    | k + 8, hq => simp [classes] at hq
  obtain ⟨K, hKa⟩ : ∃ K : Nat → ClassId, ∀ (k : Nat) (q : ClassId × FieldType), (tyK K)[k]? = some q → ArrOfT s q.1 q.2 ∧ va_RA s q.1 q.2 := by
    refine ⟨fun k => if k = 0 then k0 else if k = 1 then k1 else k2, ?_⟩
    intro k q hq
    match k, hq with
    | 0, hq => cases hq; exact ⟨fun n z => ⟨(fun k h => by cases h), kk0, hc0, co0, hk0⟩, hf0⟩
    | 1, hq => cases hq; exact ⟨fun n z => ⟨(fun k h => by cases h), kk1, hc1, co1, hk1⟩, hf1⟩
    | 2, hq => cases hq; exact ⟨fun n z => ⟨(fun k h => by cases h), kk2, hc2, co2, hk2⟩, hf2⟩
    | k + 3, hq => simp [tyK] at hq
  have hK : va_K D classes (tyK K) s := ⟨hKc, hKa⟩
  have X : gx p s m #[Value.ref b] c code 4 R_RuleTreesLaw w_law D classes (tyK K) (fun q => s.heap.size ≤ q) := ⟨hx, hb, hml, hown, hts, hK, fun _ h => h⟩
  have hP : va_P D classes ([] : List va_W).flatten s.heap := fun k q h => by simp at h
  have hD : va_D (fun q : Nat => s.heap.size ≤ q) ([] : List va_W).flatten := ⟨fun i j p q h => by simp at h, fun k q h => by simp at h⟩
  have hl := lv_entry ([.ref b]) (n := 4) (Nat.le_of_ble_eq_true rfl)
  rw [lg_entry_eq]
  suffices hG : Gd p l e room_1 s m #[Value.ref b] below meth c 0 0 (lw_Z below #[Value.ref b] s) D classes (fun q => s.heap.size ≤ q) 4 0 ([] : List va_W) [(0, .ref b)] [] from hG s.heap [] _ hP hD va_S.rf hl
  refine gd_new X (ci := 6) (fs := [.null, .null, .null, .null, .null, .null, .null, .null, .int 0]) (C := R_Rt) (T := F_Rt) (N := 9) t_Rt t_Rt_ok (in_Rt _) (List.mem_cons_of_mem _ cl_RuleTreesLaw_7) (List.mem_cons_of_mem _ is_Rt) (List.mem_cons_of_mem _ ini_Rt) rfl (fun j hj => by rcases (show j = 0 ∨ j = 1 ∨ j = 2 ∨ j = 3 ∨ j = 4 ∨ j = 5 ∨ j = 6 ∨ j = 7 ∨ j = 8 by omega) with rfl | rfl | rfl | rfl | rfl | rfl | rfl | rfl | rfl <;> rfl) (Nat.le_of_ble_eq_true rfl) (Nat.le_of_ble_eq_true rfl) d_law_0 (fun q1 => ?_)
  refine gd_wid (w' := [[(q1, .inr (6, [.null, .null, .null, .null, .null, .null, .null, .null, .int 0]))]]) rfl ?_
  refine gd_dup X d_law_3 rfl ?_
  refine gd_I X (As := []) (rest := [.ref q1]) (c_Rt_init l D K q1) 0 (gi_I u_Rt_init.2.2) rfl ⟨rfl, rfl⟩ (List.mem_cons_of_mem _ u_Rt_init.2.1) (List.mem_cons_of_mem _ ml_RuleTreesLaw_9) (List.mem_cons_of_mem _ u_Rt_init.1) rfl (by decide +kernel) ⟨Nat.le_of_ble_eq_true rfl, Nat.le_of_ble_eq_true rfl⟩ rfl rfl (Nat.le_of_ble_eq_true rfl) ⟨Nat.le_of_ble_eq_true rfl, Nat.le_of_ble_eq_true rfl⟩ d_law_4 [0] [] rfl rfl (wr := []) rfl rfl (by decide) (fun w1 hpw => ?_)
  obtain ⟨a_x, a_grammar, a_chart, a_table, a_grower, a_grown, a_joined, a_short, a_row, a_tape, a_least, a_next, e0, rfl⟩ := hpw
  subst e0
  refine gd_wid (w' := [wd_Rt K a_x (a_grammar 0) (a_chart 0) (a_grower 0) (a_short 0) (a_row 0) (a_tape 0) (a_least 0) (a_next 0) (st2 (fun _ _ => 0) 0 8 (-1)), wd_Gr K a_grammar (fun _ _ => 0), wd_Ch K a_chart (a_grammar 0) (a_table 0) (fun _ _ => 0), wd_Tt K a_table (fun _ _ => 0), wd_Gw K a_grower (a_grammar 0) (a_grown 0) (a_joined 0) (st2 (fun _ _ => 0) 0 6 (-1)), wd_Sy K a_grown 12 (fun _ _ => 0), wd_Sy K a_joined 12 (fun _ _ => 0), wd_Sr K a_short (a_grammar 0) (fun _ _ => 0), wd_Sy K a_row 12 (fun _ _ => 0), wd_Sy K a_tape 200 (fun _ _ => 0), wd_Sy K a_least 150 (fun _ _ => 0), wd_Sy K a_next 150 (fun _ _ => 0)]) rfl ?_
  refine gd_astore_n X (lv' := [(1, .ref (a_x 0)), (0, .ref b)]) d_law_7 rfl (by decide) rfl ?_
  refine gd_new X (ci := 7) (fs := [.int 0, .int 0, .int 0, .null, .int 0, .int 0, .null, .null, .null, .null, .int 0, .null, .int 0, .int 0, .int 0, .null, .null, .null, .null, .int 0, .null, .null, .null, .null, .null, .int 0, .int 0, .null, .null, .null, .null, .null, .null, .int 0, .null, .null]) (C := R_Md) (T := F_Md) (N := 36) t_Md t_Md_ok (in_Md _) (List.mem_cons_of_mem _ cl_RuleTreesLaw_10) (List.mem_cons_of_mem _ is_Md) (List.mem_cons_of_mem _ ini_Md) rfl (fun j hj => by rcases (show j = 0 ∨ j = 1 ∨ j = 2 ∨ j = 3 ∨ j = 4 ∨ j = 5 ∨ j = 6 ∨ j = 7 ∨ j = 8 ∨ j = 9 ∨ j = 10 ∨ j = 11 ∨ j = 12 ∨ j = 13 ∨ j = 14 ∨ j = 15 ∨ j = 16 ∨ j = 17 ∨ j = 18 ∨ j = 19 ∨ j = 20 ∨ j = 21 ∨ j = 22 ∨ j = 23 ∨ j = 24 ∨ j = 25 ∨ j = 26 ∨ j = 27 ∨ j = 28 ∨ j = 29 ∨ j = 30 ∨ j = 31 ∨ j = 32 ∨ j = 33 ∨ j = 34 ∨ j = 35 by omega) with rfl | rfl | rfl | rfl | rfl | rfl | rfl | rfl | rfl | rfl | rfl | rfl | rfl | rfl | rfl | rfl | rfl | rfl | rfl | rfl | rfl | rfl | rfl | rfl | rfl | rfl | rfl | rfl | rfl | rfl | rfl | rfl | rfl | rfl | rfl | rfl <;> rfl) (Nat.le_of_ble_eq_true rfl) (Nat.le_of_ble_eq_true rfl) d_law_8 (fun q2 => ?_)
  refine gd_wid (w' := [wd_Rt K a_x (a_grammar 0) (a_chart 0) (a_grower 0) (a_short 0) (a_row 0) (a_tape 0) (a_least 0) (a_next 0) (st2 (fun _ _ => 0) 0 8 (-1)), wd_Gr K a_grammar (fun _ _ => 0), wd_Ch K a_chart (a_grammar 0) (a_table 0) (fun _ _ => 0), wd_Tt K a_table (fun _ _ => 0), wd_Gw K a_grower (a_grammar 0) (a_grown 0) (a_joined 0) (st2 (fun _ _ => 0) 0 6 (-1)), wd_Sy K a_grown 12 (fun _ _ => 0), wd_Sy K a_joined 12 (fun _ _ => 0), wd_Sr K a_short (a_grammar 0) (fun _ _ => 0), wd_Sy K a_row 12 (fun _ _ => 0), wd_Sy K a_tape 200 (fun _ _ => 0), wd_Sy K a_least 150 (fun _ _ => 0), wd_Sy K a_next 150 (fun _ _ => 0), [(q2, .inr (7, [.int 0, .int 0, .int 0, .null, .int 0, .int 0, .null, .null, .null, .null, .int 0, .null, .int 0, .int 0, .int 0, .null, .null, .null, .null, .int 0, .null, .null, .null, .null, .null, .int 0, .int 0, .null, .null, .null, .null, .null, .null, .int 0, .null, .null]))]]) rfl ?_
  refine gd_dup X d_law_11 rfl ?_
  refine gd_I X (As := []) (rest := [.ref q2]) (c_Md_init l D K q2) 0 (gi_I u_Md_init.2.2) rfl ⟨rfl, rfl⟩ (List.mem_cons_of_mem _ u_Md_init.2.1) (List.mem_cons_of_mem _ ml_RuleTreesLaw_12) (List.mem_cons_of_mem _ u_Md_init.1) rfl (by decide +kernel) ⟨Nat.le_of_ble_eq_true rfl, Nat.le_of_ble_eq_true rfl⟩ rfl rfl (Nat.le_of_ble_eq_true rfl) ⟨Nat.le_of_ble_eq_true rfl, Nat.le_of_ble_eq_true rfl⟩ d_law_12 [12] [0, 1, 2, 3, 4, 5, 6, 7, 8, 9, 10, 11] rfl rfl (wr := [wd_Rt K a_x (a_grammar 0) (a_chart 0) (a_grower 0) (a_short 0) (a_row 0) (a_tape 0) (a_least 0) (a_next 0) (st2 (fun _ _ => 0) 0 8 (-1)), wd_Gr K a_grammar (fun _ _ => 0), wd_Ch K a_chart (a_grammar 0) (a_table 0) (fun _ _ => 0), wd_Tt K a_table (fun _ _ => 0), wd_Gw K a_grower (a_grammar 0) (a_grown 0) (a_joined 0) (st2 (fun _ _ => 0) 0 6 (-1)), wd_Sy K a_grown 12 (fun _ _ => 0), wd_Sy K a_joined 12 (fun _ _ => 0), wd_Sr K a_short (a_grammar 0) (fun _ _ => 0), wd_Sy K a_row 12 (fun _ _ => 0), wd_Sy K a_tape 200 (fun _ _ => 0), wd_Sy K a_least 150 (fun _ _ => 0), wd_Sy K a_next 150 (fun _ _ => 0)]) rfl rfl (by decide) (fun w1 hpw => ?_)
  obtain ⟨a_m, a_mleast, e0, rfl⟩ := hpw
  subst e0
  refine gd_wid (w' := [wd_Rt K a_x (a_grammar 0) (a_chart 0) (a_grower 0) (a_short 0) (a_row 0) (a_tape 0) (a_least 0) (a_next 0) (st2 (fun _ _ => 0) 0 8 (-1)), wd_Gr K a_grammar (fun _ _ => 0), wd_Ch K a_chart (a_grammar 0) (a_table 0) (fun _ _ => 0), wd_Tt K a_table (fun _ _ => 0), wd_Gw K a_grower (a_grammar 0) (a_grown 0) (a_joined 0) (st2 (fun _ _ => 0) 0 6 (-1)), wd_Sy K a_grown 12 (fun _ _ => 0), wd_Sy K a_joined 12 (fun _ _ => 0), wd_Sr K a_short (a_grammar 0) (fun _ _ => 0), wd_Sy K a_row 12 (fun _ _ => 0), wd_Sy K a_tape 200 (fun _ _ => 0), wd_Sy K a_least 150 (fun _ _ => 0), wd_Sy K a_next 150 (fun _ _ => 0), wd_Md K a_m (a_mleast 0) (st2 (fun _ _ => 0) 0 13 (-1)), wd_La K a_mleast (fun _ => 0)]) rfl ?_
  refine gd_astore_n X (lv' := [(2, .ref (a_m 0)), (1, .ref (a_x 0)), (0, .ref b)]) d_law_15 rfl (by decide) rfl ?_
  refine gd_loc (lv' := [(0, .ref b), (1, .ref (a_x 0)), (2, .ref (a_m 0))]) [2, 1, 0] rfl ?_
  refine gd_widen (k := 65) (n := 391987) (Nat.le_of_ble_eq_true rfl) (Nat.le_of_ble_eq_true rfl) ?_
  exact t_law_16 a_x a_grammar a_chart a_table a_grower a_grown a_joined a_short a_row a_tape a_least a_next a_m a_mleast 12 12 12 200 150 150 L xs X hr hlocks hX hbl N r (st2 (fun _ _ => 0) 0 8 (-1)) (fun _ _ => 0) (fun _ _ => 0) (fun _ _ => 0) (st2 (fun _ _ => 0) 0 6 (-1)) (fun _ _ => 0) (fun _ _ => 0) (fun _ _ => 0) (fun _ _ => 0) (fun _ _ => 0) (fun _ _ => 0) (fun _ _ => 0) (st2 (fun _ _ => 0) 0 13 (-1)) (fun _ => 0) hp
