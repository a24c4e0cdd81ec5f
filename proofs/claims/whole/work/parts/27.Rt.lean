abbrev b_Rt_code : ByteArray := prog_1_method_11_code
def y_Rt_code : MethodName := ⟨R_Rt, "code", "(III)I"⟩
def w_Rt_code : List Cond := .code y_Rt_code b_Rt_code 4 (some .int) :: TB
theorem k_Rt_code : Cond.code y_Rt_code b_Rt_code 4 (some .int) ∈ TB := tb_of 567 (by decide +kernel) (by decide +kernel)
theorem d_Rt_code_0 : decode b_Rt_code 0 = .ok (.aload_n 0, 1) := by decide +kernel
theorem d_Rt_code_1 : decode b_Rt_code 1 = .ok (.iload_n 1, 1) := by decide +kernel
theorem d_Rt_code_2 : decode b_Rt_code 2 = .ok (.iload_n 2, 1) := by decide +kernel
theorem d_Rt_code_3 : decode b_Rt_code 3 = .ok (.invokevirtual 106, 3) := by decide +kernel
theorem d_Rt_code_6 : decode b_Rt_code 6 = .ok (.ifCond .ne 7, 3) := by decide +kernel
theorem d_Rt_code_9 : decode b_Rt_code 9 = .ok (.sipush (-1000), 3) := by decide +kernel
theorem d_Rt_code_12 : decode b_Rt_code 12 = .ok (.ireturn, 1) := by decide +kernel
theorem d_Rt_code_13 : decode b_Rt_code 13 = .ok (.aload_n 0, 1) := by decide +kernel
theorem d_Rt_code_14 : decode b_Rt_code 14 = .ok (.getfield 21, 3) := by decide +kernel
theorem d_Rt_code_17 : decode b_Rt_code 17 = .ok (.aload_n 0, 1) := by decide +kernel
theorem d_Rt_code_18 : decode b_Rt_code 18 = .ok (.getfield 44, 3) := by decide +kernel
theorem d_Rt_code_21 : decode b_Rt_code 21 = .ok (.invokevirtual 94, 3) := by decide +kernel
theorem d_Rt_code_24 : decode b_Rt_code 24 = .ok (.aload_n 0, 1) := by decide +kernel
theorem d_Rt_code_25 : decode b_Rt_code 25 = .ok (.getfield 21, 3) := by decide +kernel
theorem d_Rt_code_28 : decode b_Rt_code 28 = .ok (.iload_n 1, 1) := by decide +kernel
theorem d_Rt_code_29 : decode b_Rt_code 29 = .ok (.iload_n 2, 1) := by decide +kernel
theorem d_Rt_code_30 : decode b_Rt_code 30 = .ok (.aload_n 0, 1) := by decide +kernel
theorem d_Rt_code_31 : decode b_Rt_code 31 = .ok (.getfield 44, 3) := by decide +kernel
theorem d_Rt_code_34 : decode b_Rt_code 34 = .ok (.getfield 85, 3) := by decide +kernel
theorem d_Rt_code_37 : decode b_Rt_code 37 = .ok (.aload_n 0, 1) := by decide +kernel
theorem d_Rt_code_38 : decode b_Rt_code 38 = .ok (.getfield 51, 3) := by decide +kernel
theorem d_Rt_code_41 : decode b_Rt_code 41 = .ok (.invokevirtual 113, 3) := by decide +kernel
theorem d_Rt_code_44 : decode b_Rt_code 44 = .ok (.aload_n 0, 1) := by decide +kernel
theorem d_Rt_code_45 : decode b_Rt_code 45 = .ok (.getfield 51, 3) := by decide +kernel
theorem d_Rt_code_48 : decode b_Rt_code 48 = .ok (.iload_n 3, 1) := by decide +kernel
theorem d_Rt_code_49 : decode b_Rt_code 49 = .ok (.invokevirtual 117, 3) := by decide +kernel
theorem d_Rt_code_52 : decode b_Rt_code 52 = .ok (.ireturn, 1) := by decide +kernel
theorem fl_Rt_51 : Cond.fieldLink R_Rt 51 "RuleTrees" "leastCodes" "LRuleTrees$Symbols;" ∈ TB := tb_of 267 (by decide +kernel) (by decide +kernel)
theorem ml_Rt_113 : Cond.methodLink R_Rt 113 ⟨"RuleTrees$Chart", "spell", "(IIILRuleTrees$Symbols;)V"⟩ ∈ TB := tb_of 568 (by decide +kernel) (by decide +kernel)
theorem u_Ch_spell : (Cond.instanceMethod y_Ch_spell ∈ TB ∧ Cond.selects R_Ch y_Ch_spell y_Ch_spell ∈ TB) ∧ Cond.initialized R_Ch ∈ TB ∧ Cond.code y_Ch_spell b_Ch_spell 5 none ∈ TB := ⟨⟨(tb_of 569 (by decide +kernel) (by decide +kernel)), (tb_of 570 (by decide +kernel) (by decide +kernel))⟩, (tb_of 64 (by decide +kernel) (by decide +kernel)), k_Ch_spell⟩
theorem ml_Rt_117 : Cond.methodLink R_Rt 117 ⟨"RuleTrees$Symbols", "at", "(I)I"⟩ ∈ TB := tb_of 578 (by decide +kernel) (by decide +kernel)
abbrev rm_Rt_code : Room := { frames := 16, cells := 0, slots := 0, locals := 459 }
def f_Rt_code_0 (N : Nat) (n_row : Nat) (n_least : Nat) (s_self s_grammar s_chart s_table s_row s_least : Nat → Nat → Int32) (v1 v2 v3 : Int32) : Option ((Int32) × (Nat → Nat → Int32) × (Nat → Nat → Int32) × (Nat → Nat → Int32)) :=
  bd1 (m_Rt_canHaveTree n_row s_self s_grammar s_row v1 v2) fun r_1 =>
  if r_1 = 0 then
    some (((-1000)), s_chart, s_table, s_least)
  else
    bd2 (m_Ch_catchUp N n_row s_chart s_grammar s_table s_row) fun s_chart_4 s_table_5 =>
    bd2 (m_Ch_spell N n_least s_chart_4 s_table_5 s_least v1 v2 (s_row 0 1)) fun s_table_7 s_least_8 =>
    bd1 (m_Sy_at n_least s_least_8 v3) fun r_10 =>
    some ((r_10), s_chart_4, s_table_7, s_least_8)
set_option maxHeartbeats 4000000 in
set_option maxRecDepth 100000 in
theorem t_Rt_code_0 {p : Program} {l : Launch} {e : Env} {s : State} {m : MethodId} {args : Array Value} {below : List Frame} {meth : Method} {c : Code} {A : Nat → Prop} {D : va_G} {K : Nat → ClassId} (a_self a_grammar a_chart a_table a_grower a_short a_row a_tape a_least a_next : Nat → Nat) (n_row : Nat) (n_least : Nat) (X : gx p s m args c b_Rt_code 4 R_Rt w_Rt_code D classes (tyK K) A) (hr : meth.sig.returnType = some .int) (hlk : meth.locks = false) (N : Nat) (r : Int32) (f_chart f_table f_least : Nat → Nat → Int32) (s_self s_grammar s_chart s_table s_row s_least : Nat → Nat → Int32) (v1 v2 v3 : Int32) (h : f_Rt_code_0 N n_row n_least s_self s_grammar s_chart s_table s_row s_least v1 v2 v3 = some (r, f_chart, f_table, f_least)) : Gd p l e rm_Rt_code s m args below meth c 0 0 (MQ below (sq D classes (tyK K) (some (.int r)) [wd_Rt K a_self (a_grammar 0) (a_chart 0) (a_grower 0) (a_short 0) (a_row 0) (a_tape 0) (a_least 0) (a_next 0) s_self, wd_Gr K a_grammar s_grammar, wd_Ch K a_chart (a_grammar 0) (a_table 0) f_chart, wd_Tt K a_table f_table, wd_Sy K a_row n_row s_row, wd_Sy K a_least n_least f_least] A) args s 0 0 A) D classes A 4 0 [wd_Rt K a_self (a_grammar 0) (a_chart 0) (a_grower 0) (a_short 0) (a_row 0) (a_tape 0) (a_least 0) (a_next 0) s_self, wd_Gr K a_grammar s_grammar, wd_Ch K a_chart (a_grammar 0) (a_table 0) s_chart, wd_Tt K a_table s_table, wd_Sy K a_row n_row s_row, wd_Sy K a_least n_least s_least] [(0, .ref (a_self 0)), (1, .int v1), (2, .int v2), (3, .int v3)] [] := by
  unfold f_Rt_code_0 at h
  refine gd_aload_n X d_Rt_code_0 0 rfl ?_
  refine gd_iload_n X d_Rt_code_1 1 rfl ?_
  refine gd_iload_n X d_Rt_code_2 2 rfl ?_
  obtain ⟨r_1, hc_2, h⟩ := bd1_e h
  refine gd_pI X (gd_V X (As := [.int v1, .int v2]) (rest := []) (c_Rt_canHaveTree l D K a_self a_grammar a_chart a_grower a_short a_row a_tape a_least a_next n_row s_self s_grammar s_row v1 v2 r_1 hc_2) 2 (gi_V ml_Rt_106 u_Rt_canHaveTree) rfl ⟨rfl, rfl⟩ (by decide +kernel) ⟨by decide, by decide⟩ (ci := 6) rfl rfl rfl rfl rfl rfl (Nat.le_of_ble_eq_true rfl) ⟨Nat.zero_le _, Nat.zero_le _⟩ d_Rt_code_3) [0, 1, 4] rfl rfl ?_
  refine gd_if_ne X (tgt := 13) d_Rt_code_6 (by decide) (fun c_3 => ?_) (fun c_3 => ?_)
  · replace h := it_n c_3 h
    refine gd_aload_n X d_Rt_code_13 0 rfl ?_
    refine gd_get X (ci := 6) (C := R_Rt) (T := F_Rt) (N := 9) (v := .ref (a_chart 0)) 0 0 rfl rfl rfl (in_Rt _) 1 (by decide) (List.mem_cons_of_mem _ fl_Rt_21) rfl rfl d_Rt_code_14 ?_
    refine gd_aload_n X d_Rt_code_17 0 rfl ?_
    refine gd_get X (ci := 6) (C := R_Rt) (T := F_Rt) (N := 9) (v := .ref (a_row 0)) 0 0 rfl rfl rfl (in_Rt _) 4 (by decide) (List.mem_cons_of_mem _ fl_Rt_44) rfl rfl d_Rt_code_18 ?_
    obtain ⟨s_chart_4, s_table_5, hc_6, h⟩ := bd2_e h
    refine gd_cv X (gd_V X (As := [.ref (a_row 0)]) (rest := []) (c_Ch_catchUp l D K a_chart a_grammar a_table a_row n_row N s_chart s_grammar s_table s_row s_chart_4 s_table_5 hc_6) 1 (gi_V ml_Rt_94 u_Ch_catchUp) rfl ⟨rfl, rfl⟩ (by decide +kernel) ⟨by decide, by decide⟩ (ci := 3) rfl rfl rfl rfl rfl rfl (Nat.le_of_ble_eq_true rfl) ⟨Nat.zero_le _, Nat.zero_le _⟩ d_Rt_code_21) (w2 := [wd_Rt K a_self (a_grammar 0) (a_chart 0) (a_grower 0) (a_short 0) (a_row 0) (a_tape 0) (a_least 0) (a_next 0) s_self, wd_Gr K a_grammar s_grammar, wd_Ch K a_chart (a_grammar 0) (a_table 0) s_chart_4, wd_Tt K a_table s_table_5, wd_Sy K a_row n_row s_row, wd_Sy K a_least n_least s_least]) [2, 1, 3, 4] [0, 5] rfl rfl rfl rfl ⟨rfl, rfl⟩ rfl ?_
    refine gd_aload_n X d_Rt_code_24 0 rfl ?_
    refine gd_get X (ci := 6) (C := R_Rt) (T := F_Rt) (N := 9) (v := .ref (a_chart 0)) 0 0 rfl rfl rfl (in_Rt _) 1 (by decide) (List.mem_cons_of_mem _ fl_Rt_21) rfl rfl d_Rt_code_25 ?_
    refine gd_iload_n X d_Rt_code_28 1 rfl ?_
    refine gd_iload_n X d_Rt_code_29 2 rfl ?_
    refine gd_aload_n X d_Rt_code_30 0 rfl ?_
    refine gd_get X (ci := 6) (C := R_Rt) (T := F_Rt) (N := 9) (v := .ref (a_row 0)) 0 0 rfl rfl rfl (in_Rt _) 4 (by decide) (List.mem_cons_of_mem _ fl_Rt_44) rfl rfl d_Rt_code_31 ?_
    refine gd_get X (ci := 0) (C := R_Sy) (T := F_Sy) (N := 2) (v := .int (s_row 0 1)) 4 0 rfl rfl rfl (in_Sy _) 1 (by decide) (List.mem_cons_of_mem _ fl_Rt_85) rfl rfl d_Rt_code_34 ?_
    refine gd_aload_n X d_Rt_code_37 0 rfl ?_
    refine gd_get X (ci := 6) (C := R_Rt) (T := F_Rt) (N := 9) (v := .ref (a_least 0)) 0 0 rfl rfl rfl (in_Rt _) 6 (by decide) (List.mem_cons_of_mem _ fl_Rt_51) rfl rfl d_Rt_code_38 ?_
    obtain ⟨s_table_7, s_least_8, hc_9, h⟩ := bd2_e h
    refine gd_cv X (gd_V X (As := [.int v1, .int v2, .int (s_row 0 1), .ref (a_least 0)]) (rest := []) (c_Ch_spell l D K a_chart a_grammar a_table a_least n_least N s_chart_4 s_table_5 s_least v1 v2 (s_row 0 1) s_table_7 s_least_8 hc_9) 4 (gi_V ml_Rt_113 u_Ch_spell) rfl ⟨rfl, rfl⟩ (by decide +kernel) ⟨by decide, by decide⟩ (ci := 3) rfl rfl rfl rfl rfl rfl (Nat.le_of_ble_eq_true rfl) ⟨Nat.zero_le _, Nat.zero_le _⟩ d_Rt_code_41) (w2 := [wd_Rt K a_self (a_grammar 0) (a_chart 0) (a_grower 0) (a_short 0) (a_row 0) (a_tape 0) (a_least 0) (a_next 0) s_self, wd_Gr K a_grammar s_grammar, wd_Ch K a_chart (a_grammar 0) (a_table 0) s_chart_4, wd_Tt K a_table s_table_7, wd_Sy K a_row n_row s_row, wd_Sy K a_least n_least s_least_8]) [2, 3, 5] [0, 1, 4] rfl rfl rfl rfl ⟨rfl, rfl⟩ rfl ?_
    refine gd_aload_n X d_Rt_code_44 0 rfl ?_
    refine gd_get X (ci := 6) (C := R_Rt) (T := F_Rt) (N := 9) (v := .ref (a_least 0)) 0 0 rfl rfl rfl (in_Rt _) 6 (by decide) (List.mem_cons_of_mem _ fl_Rt_51) rfl rfl d_Rt_code_45 ?_
    refine gd_iload_n X d_Rt_code_48 3 rfl ?_
    obtain ⟨r_10, hc_11, h⟩ := bd1_e h
    refine gd_pI X (gd_V X (As := [.int v3]) (rest := []) (c_Sy_at l D K a_least n_least s_least_8 v3 r_10 hc_11) 1 (gi_V ml_Rt_117 u_Sy_at) rfl ⟨rfl, rfl⟩ (by decide +kernel) ⟨by decide, by decide⟩ (ci := 0) rfl rfl rfl rfl rfl rfl (Nat.le_of_ble_eq_true rfl) ⟨Nat.zero_le _, Nat.zero_le _⟩ d_Rt_code_49) [5] rfl rfl ?_
    cases h
    exact gd_iret X hr hlk d_Rt_code_52
  · replace h := it_p c_3 h
    refine gd_sipush X (v := (-1000)) d_Rt_code_9 (by decide) ?_
    cases h
    exact gd_iret X hr hlk d_Rt_code_12
def m_Rt_code (N : Nat) (n_row : Nat) (n_least : Nat) (s_self s_grammar s_chart s_table s_row s_least : Nat → Nat → Int32) (v1 v2 v3 : Int32) : Option ((Int32) × (Nat → Nat → Int32) × (Nat → Nat → Int32) × (Nat → Nat → Int32)) := f_Rt_code_0 N n_row n_least s_self s_grammar s_chart s_table s_row s_least v1 v2 v3
set_option maxHeartbeats 4000000 in
set_option maxRecDepth 100000 in
theorem c_Rt_code (l : Launch) (D : va_G) (K : Nat → ClassId) (a_self a_grammar a_chart a_table a_grower a_short a_row a_tape a_least a_next : Nat → Nat) (n_row : Nat) (n_least : Nat) (N : Nat) (s_self s_grammar s_chart s_table s_row s_least : Nat → Nat → Int32) (v1 v2 v3 : Int32) (r : Int32) (f_chart f_table f_least : Nat → Nat → Int32) (h : m_Rt_code N n_row n_least s_self s_grammar s_chart s_table s_row s_least v1 v2 v3 = some (r, f_chart, f_table, f_least)) : SMet l y_Rt_code w_Rt_code rm_Rt_code D classes (tyK K) [.ref (a_self 0), .int v1, .int v2, .int v3] (some (.int r)) [wd_Rt K a_self (a_grammar 0) (a_chart 0) (a_grower 0) (a_short 0) (a_row 0) (a_tape 0) (a_least 0) (a_next 0) s_self, wd_Gr K a_grammar s_grammar, wd_Ch K a_chart (a_grammar 0) (a_table 0) s_chart, wd_Tt K a_table s_table, wd_Sy K a_row n_row s_row, wd_Sy K a_least n_least s_least] [wd_Rt K a_self (a_grammar 0) (a_chart 0) (a_grower 0) (a_short 0) (a_row 0) (a_tape 0) (a_least 0) (a_next 0) s_self, wd_Gr K a_grammar s_grammar, wd_Ch K a_chart (a_grammar 0) (a_table 0) f_chart, wd_Tt K a_table f_table, wd_Sy K a_row n_row s_row, wd_Sy K a_least n_least f_least] := by
  refine sm_of R_Rt (by decide) rfl rfl (Nat.le_of_ble_eq_true rfl) ?_
  intro p e s m below meth c A X hr hlk
  refine gd_loc (lv' := [(0, .ref (a_self 0)), (1, .int v1), (2, .int v2), (3, .int v3)]) [0, 1, 2, 3] rfl ?_
  exact t_Rt_code_0 a_self a_grammar a_chart a_table a_grower a_short a_row a_tape a_least a_next n_row n_least X hr hlk N r f_chart f_table f_least s_self s_grammar s_chart s_table s_row s_least v1 v2 v3 h
abbrev b_Rt_stretches : ByteArray := prog_1_method_12_code
def y_Rt_stretches : MethodName := ⟨R_Rt, "stretches", "(II)I"⟩
def w_Rt_stretches : List Cond := .code y_Rt_stretches b_Rt_stretches 6 (some .int) :: TB
theorem k_Rt_stretches : Cond.code y_Rt_stretches b_Rt_stretches 6 (some .int) ∈ TB := tb_of 582 (by decide +kernel) (by decide +kernel)
theorem d_Rt_stretches_0 : decode b_Rt_stretches 0 = .ok (.aload_n 0, 1) := by decide +kernel
theorem d_Rt_stretches_1 : decode b_Rt_stretches 1 = .ok (.getfield 12, 3) := by decide +kernel
theorem d_Rt_stretches_4 : decode b_Rt_stretches 4 = .ok (.iload_n 1, 1) := by decide +kernel
theorem d_Rt_stretches_5 : decode b_Rt_stretches 5 = .ok (.invokevirtual 91, 3) := by decide +kernel
theorem d_Rt_stretches_8 : decode b_Rt_stretches 8 = .ok (.ifCond .eq 12, 3) := by decide +kernel
theorem d_Rt_stretches_11 : decode b_Rt_stretches 11 = .ok (.iload_n 2, 1) := by decide +kernel
theorem d_Rt_stretches_12 : decode b_Rt_stretches 12 = .ok (.ifCond .lt 8, 3) := by decide +kernel
theorem d_Rt_stretches_15 : decode b_Rt_stretches 15 = .ok (.iload_n 2, 1) := by decide +kernel
theorem d_Rt_stretches_16 : decode b_Rt_stretches 16 = .ok (.iconst 3, 1) := by decide +kernel
theorem d_Rt_stretches_17 : decode b_Rt_stretches 17 = .ok (.if_icmp .le 5, 3) := by decide +kernel
theorem d_Rt_stretches_20 : decode b_Rt_stretches 20 = .ok (.iconst (-1), 1) := by decide +kernel
theorem d_Rt_stretches_21 : decode b_Rt_stretches 21 = .ok (.ireturn, 1) := by decide +kernel
theorem d_Rt_stretches_22 : decode b_Rt_stretches 22 = .ok (.aload_n 0, 1) := by decide +kernel
theorem d_Rt_stretches_23 : decode b_Rt_stretches 23 = .ok (.getfield 21, 3) := by decide +kernel
theorem d_Rt_stretches_26 : decode b_Rt_stretches 26 = .ok (.aload_n 0, 1) := by decide +kernel
theorem d_Rt_stretches_27 : decode b_Rt_stretches 27 = .ok (.getfield 44, 3) := by decide +kernel
theorem d_Rt_stretches_30 : decode b_Rt_stretches 30 = .ok (.invokevirtual 94, 3) := by decide +kernel
theorem d_Rt_stretches_33 : decode b_Rt_stretches 33 = .ok (.iconst 0, 1) := by decide +kernel
theorem d_Rt_stretches_34 : decode b_Rt_stretches 34 = .ok (.istore_n 3, 1) := by decide +kernel
theorem d_Rt_stretches_35 : decode b_Rt_stretches 35 = .ok (.iconst 1, 1) := by decide +kernel
theorem d_Rt_stretches_36 : decode b_Rt_stretches 36 = .ok (.istore 4, 2) := by decide +kernel
theorem d_Rt_stretches_38 : decode b_Rt_stretches 38 = .ok (.iload 4, 2) := by decide +kernel
theorem d_Rt_stretches_40 : decode b_Rt_stretches 40 = .ok (.aload_n 0, 1) := by decide +kernel
theorem d_Rt_stretches_41 : decode b_Rt_stretches 41 = .ok (.getfield 44, 3) := by decide +kernel
theorem d_Rt_stretches_44 : decode b_Rt_stretches 44 = .ok (.getfield 85, 3) := by decide +kernel
theorem d_Rt_stretches_47 : decode b_Rt_stretches 47 = .ok (.if_icmp .gt 47, 3) := by decide +kernel
theorem d_Rt_stretches_50 : decode b_Rt_stretches 50 = .ok (.iconst 0, 1) := by decide +kernel
theorem d_Rt_stretches_51 : decode b_Rt_stretches 51 = .ok (.istore 5, 2) := by decide +kernel
theorem d_Rt_stretches_53 : decode b_Rt_stretches 53 = .ok (.iload 5, 2) := by decide +kernel
theorem d_Rt_stretches_55 : decode b_Rt_stretches 55 = .ok (.iload 4, 2) := by decide +kernel
theorem d_Rt_stretches_57 : decode b_Rt_stretches 57 = .ok (.if_icmp .ge 31, 3) := by decide +kernel
theorem d_Rt_stretches_60 : decode b_Rt_stretches 60 = .ok (.aload_n 0, 1) := by decide +kernel
theorem d_Rt_stretches_61 : decode b_Rt_stretches 61 = .ok (.getfield 21, 3) := by decide +kernel
theorem d_Rt_stretches_64 : decode b_Rt_stretches 64 = .ok (.iload_n 1, 1) := by decide +kernel
theorem d_Rt_stretches_65 : decode b_Rt_stretches 65 = .ok (.iload 5, 2) := by decide +kernel
theorem d_Rt_stretches_67 : decode b_Rt_stretches 67 = .ok (.iload 4, 2) := by decide +kernel
theorem d_Rt_stretches_69 : decode b_Rt_stretches 69 = .ok (.invokevirtual 98, 3) := by decide +kernel
theorem d_Rt_stretches_72 : decode b_Rt_stretches 72 = .ok (.invokestatic 120, 3) := by decide +kernel
theorem d_Rt_stretches_75 : decode b_Rt_stretches 75 = .ok (.iload_n 2, 1) := by decide +kernel
theorem d_Rt_stretches_76 : decode b_Rt_stretches 76 = .ok (.if_icmp .ne 6, 3) := by decide +kernel
theorem d_Rt_stretches_79 : decode b_Rt_stretches 79 = .ok (.iinc 3 1, 3) := by decide +kernel
theorem d_Rt_stretches_82 : decode b_Rt_stretches 82 = .ok (.iinc 5 1, 3) := by decide +kernel
theorem d_Rt_stretches_85 : decode b_Rt_stretches 85 = .ok (.goto (-32), 3) := by decide +kernel
theorem d_Rt_stretches_88 : decode b_Rt_stretches 88 = .ok (.iinc 4 1, 3) := by decide +kernel
theorem d_Rt_stretches_91 : decode b_Rt_stretches 91 = .ok (.goto (-53), 3) := by decide +kernel
theorem d_Rt_stretches_94 : decode b_Rt_stretches 94 = .ok (.iload_n 3, 1) := by decide +kernel
theorem d_Rt_stretches_95 : decode b_Rt_stretches 95 = .ok (.ireturn, 1) := by decide +kernel
theorem ml_Rt_120 : Cond.methodLink R_Rt 120 ⟨"RuleTrees$Ways", "kindOf", "(I)I"⟩ ∈ TB := tb_of 583 (by decide +kernel) (by decide +kernel)
theorem u_Wy_kindOf : Cond.static y_Wy_kindOf ∈ TB ∧ Cond.initialized y_Wy_kindOf.cls ∈ TB ∧ Cond.code y_Wy_kindOf b_Wy_kindOf 1 (some .int) ∈ TB := ⟨(tb_of 584 (by decide +kernel) (by decide +kernel)), (tb_of 71 (by decide +kernel) (by decide +kernel)), k_Wy_kindOf⟩
abbrev rm_Rt_stretches : Room := { frames := 16, cells := 0, slots := 0, locals := 459 }
def f_Rt_stretches_53 (N : Nat) (n_row : Nat) (kb : Int32 → Int32 → Option ((Int32) × (Nat → Nat → Int32) × (Nat → Nat → Int32))) (kx88 : Int32 → Option ((Int32) × (Nat → Nat → Int32) × (Nat → Nat → Int32))) (s_self s_grammar s_chart s_table s_row : Nat → Nat → Int32) (v1 v2 v3 v4 v5 : Int32) : Option ((Int32) × (Nat → Nat → Int32) × (Nat → Nat → Int32)) :=
  if v4 ≤ v5 then
    kx88 v3
  else
    bd1 (m_Ch_waysOf s_chart v1 v5 v4) fun r_2 =>
    bd1 (m_Wy_kindOf r_2) fun r_4 =>
    if r_4 = v2 then
      nm (v3 + 1) fun v3_8 =>
      nm (v5 + 1) fun v5_9 =>
      kb v3_8 v5_9
    else
      nm (v5 + 1) fun v5_7 =>
      kb v3 v5_7
set_option maxHeartbeats 4000000 in
set_option maxRecDepth 100000 in
theorem t_Rt_stretches_53 {p : Program} {l : Launch} {e : Env} {s : State} {m : MethodId} {args : Array Value} {below : List Frame} {meth : Method} {c : Code} {A : Nat → Prop} {D : va_G} {K : Nat → ClassId} (a_self a_grammar a_chart a_table a_grower a_short a_row a_tape a_least a_next : Nat → Nat) (n_row : Nat) (X : gx p s m args c b_Rt_stretches 6 R_Rt w_Rt_stretches D classes (tyK K) A) (hr : meth.sig.returnType = some .int) (hlk : meth.locks = false) (N : Nat) (r : Int32) (f_chart f_table : Nat → Nat → Int32) (s_self s_grammar s_chart s_table s_row : Nat → Nat → Int32) (v1 v2 v3 v4 v5 : Int32) (kb : Int32 → Int32 → Option ((Int32) × (Nat → Nat → Int32) × (Nat → Nat → Int32))) (hkb : ∀ (v3 v5 : Int32), kb v3 v5 = some (r, f_chart, f_table) → Gd p l e rm_Rt_stretches s m args below meth c 0 0 (MQ below (sq D classes (tyK K) (some (.int r)) [wd_Rt K a_self (a_grammar 0) (a_chart 0) (a_grower 0) (a_short 0) (a_row 0) (a_tape 0) (a_least 0) (a_next 0) s_self, wd_Gr K a_grammar s_grammar, wd_Ch K a_chart (a_grammar 0) (a_table 0) f_chart, wd_Tt K a_table f_table, wd_Sy K a_row n_row s_row] A) args s 0 0 A) D classes A 6 53 [wd_Rt K a_self (a_grammar 0) (a_chart 0) (a_grower 0) (a_short 0) (a_row 0) (a_tape 0) (a_least 0) (a_next 0) s_self, wd_Gr K a_grammar s_grammar, wd_Ch K a_chart (a_grammar 0) (a_table 0) s_chart, wd_Tt K a_table s_table, wd_Sy K a_row n_row s_row] [(0, .ref (a_self 0)), (1, .int v1), (2, .int v2), (3, .int v3), (4, .int v4), (5, .int v5)] []) (kx88 : Int32 → Option ((Int32) × (Nat → Nat → Int32) × (Nat → Nat → Int32))) (hkx88 : ∀ (v3 : Int32), kx88 v3 = some (r, f_chart, f_table) → Gd p l e rm_Rt_stretches s m args below meth c 0 0 (MQ below (sq D classes (tyK K) (some (.int r)) [wd_Rt K a_self (a_grammar 0) (a_chart 0) (a_grower 0) (a_short 0) (a_row 0) (a_tape 0) (a_least 0) (a_next 0) s_self, wd_Gr K a_grammar s_grammar, wd_Ch K a_chart (a_grammar 0) (a_table 0) f_chart, wd_Tt K a_table f_table, wd_Sy K a_row n_row s_row] A) args s 0 0 A) D classes A 6 88 [wd_Rt K a_self (a_grammar 0) (a_chart 0) (a_grower 0) (a_short 0) (a_row 0) (a_tape 0) (a_least 0) (a_next 0) s_self, wd_Gr K a_grammar s_grammar, wd_Ch K a_chart (a_grammar 0) (a_table 0) s_chart, wd_Tt K a_table s_table, wd_Sy K a_row n_row s_row] [(0, .ref (a_self 0)), (1, .int v1), (2, .int v2), (3, .int v3), (4, .int v4)] []) (h : f_Rt_stretches_53 N n_row kb kx88 s_self s_grammar s_chart s_table s_row v1 v2 v3 v4 v5 = some (r, f_chart, f_table)) : Gd p l e rm_Rt_stretches s m args below meth c 0 0 (MQ below (sq D classes (tyK K) (some (.int r)) [wd_Rt K a_self (a_grammar 0) (a_chart 0) (a_grower 0) (a_short 0) (a_row 0) (a_tape 0) (a_least 0) (a_next 0) s_self, wd_Gr K a_grammar s_grammar, wd_Ch K a_chart (a_grammar 0) (a_table 0) f_chart, wd_Tt K a_table f_table, wd_Sy K a_row n_row s_row] A) args s 0 0 A) D classes A 6 53 [wd_Rt K a_self (a_grammar 0) (a_chart 0) (a_grower 0) (a_short 0) (a_row 0) (a_tape 0) (a_least 0) (a_next 0) s_self, wd_Gr K a_grammar s_grammar, wd_Ch K a_chart (a_grammar 0) (a_table 0) s_chart, wd_Tt K a_table s_table, wd_Sy K a_row n_row s_row] [(0, .ref (a_self 0)), (1, .int v1), (2, .int v2), (3, .int v3), (4, .int v4), (5, .int v5)] [] := by
  unfold f_Rt_stretches_53 at h
  refine gd_iload X d_Rt_stretches_53 5 rfl ?_
  refine gd_iload X d_Rt_stretches_55 4 rfl ?_
  refine gd_icmp_ge X (tgt := 88) d_Rt_stretches_57 (by decide) (fun c_1 => ?_) (fun c_1 => ?_)
  · replace h := it_p c_1 h
    refine gd_loc (lv' := [(0, .ref (a_self 0)), (1, .int v1), (2, .int v2), (3, .int v3), (4, .int v4)]) [0, 1, 2, 3, 4] rfl ?_
    exact hkx88 v3 h
  · replace h := it_n c_1 h
    refine gd_aload_n X d_Rt_stretches_60 0 rfl ?_
    refine gd_get X (ci := 6) (C := R_Rt) (T := F_Rt) (N := 9) (v := .ref (a_chart 0)) 0 0 rfl rfl rfl (in_Rt _) 1 (by decide) (List.mem_cons_of_mem _ fl_Rt_21) rfl rfl d_Rt_stretches_61 ?_
    refine gd_iload_n X d_Rt_stretches_64 1 rfl ?_
    refine gd_iload X d_Rt_stretches_65 5 rfl ?_
    refine gd_iload X d_Rt_stretches_67 4 rfl ?_
    obtain ⟨r_2, hc_3, h⟩ := bd1_e h
    refine gd_pI X (gd_V X (As := [.int v1, .int v5, .int v4]) (rest := []) (c_Ch_waysOf l D K a_chart a_grammar a_table s_chart v1 v5 v4 r_2 hc_3) 3 (gi_V ml_Rt_98 u_Ch_waysOf) rfl ⟨rfl, rfl⟩ (by decide +kernel) ⟨by decide, by decide⟩ (ci := 3) rfl rfl rfl rfl rfl rfl (Nat.le_of_ble_eq_true rfl) ⟨Nat.zero_le _, Nat.zero_le _⟩ d_Rt_stretches_69) [2] rfl rfl ?_
    obtain ⟨r_4, hc_5, h⟩ := bd1_e h
    refine gd_pI X (gd_Sc X (As := [.int r_2]) (rest := []) (c_Wy_kindOf l D K r_2 r_4 hc_5) 1 (gi_S ml_Rt_120 u_Wy_kindOf) rfl ⟨rfl, rfl⟩ (by decide +kernel) ⟨by decide, by decide⟩ rfl rfl (Nat.le_of_ble_eq_true rfl) ⟨Nat.zero_le _, Nat.zero_le _⟩ d_Rt_stretches_72) [] rfl rfl ?_
    refine gd_iload_n X d_Rt_stretches_75 2 rfl ?_
    refine gd_icmp_ne X (tgt := 82) d_Rt_stretches_76 (by decide) (fun c_6 => ?_) (fun c_6 => ?_)
    · replace h := it_n c_6 h
      obtain ⟨v5_7, ev5_7, h⟩ := nm_e' h
      refine gd_iinc X (v := v5_7) (lv' := [(5, .int v5_7), (0, .ref (a_self 0)), (1, .int v1), (2, .int v2), (3, .int v3), (4, .int v4)]) d_Rt_stretches_82 (k := 5) rfl (by rw [ev5_7]; rfl) (by decide) rfl ?_
      refine gd_goto X (tgt := 53) d_Rt_stretches_85 (by decide) ?_
      refine gd_loc (lv' := [(0, .ref (a_self 0)), (1, .int v1), (2, .int v2), (3, .int v3), (4, .int v4), (5, .int v5_7)]) [1, 2, 3, 4, 5, 0] rfl ?_
      exact hkb v3 v5_7 h
    · replace h := it_p c_6 h
      obtain ⟨v3_8, ev3_8, h⟩ := nm_e' h
      refine gd_iinc X (v := v3_8) (lv' := [(3, .int v3_8), (0, .ref (a_self 0)), (1, .int v1), (2, .int v2), (4, .int v4), (5, .int v5)]) d_Rt_stretches_79 (k := 3) rfl (by rw [ev3_8]; rfl) (by decide) rfl ?_
      obtain ⟨v5_9, ev5_9, h⟩ := nm_e' h
      refine gd_iinc X (v := v5_9) (lv' := [(5, .int v5_9), (3, .int v3_8), (0, .ref (a_self 0)), (1, .int v1), (2, .int v2), (4, .int v4)]) d_Rt_stretches_82 (k := 5) rfl (by rw [ev5_9]; rfl) (by decide) rfl ?_
      refine gd_goto X (tgt := 53) d_Rt_stretches_85 (by decide) ?_
      refine gd_loc (lv' := [(0, .ref (a_self 0)), (1, .int v1), (2, .int v2), (3, .int v3_8), (4, .int v4), (5, .int v5_9)]) [2, 3, 4, 1, 5, 0] rfl ?_
      exact hkb v3_8 v5_9 h
def f_Rt_stretches_88 (N : Nat) (n_row : Nat) (kb : Int32 → Int32 → Option ((Int32) × (Nat → Nat → Int32) × (Nat → Nat → Int32))) (kx94 : Int32 → Option ((Int32) × (Nat → Nat → Int32) × (Nat → Nat → Int32))) (s_self s_grammar s_chart s_table s_row : Nat → Nat → Int32) (v1 v2 v3 v4 : Int32) : Option ((Int32) × (Nat → Nat → Int32) × (Nat → Nat → Int32)) :=
  nm (v4 + 1) fun v4_1 =>
  kb v3 v4_1
set_option maxHeartbeats 4000000 in
set_option maxRecDepth 100000 in
theorem t_Rt_stretches_88 {p : Program} {l : Launch} {e : Env} {s : State} {m : MethodId} {args : Array Value} {below : List Frame} {meth : Method} {c : Code} {A : Nat → Prop} {D : va_G} {K : Nat → ClassId} (a_self a_grammar a_chart a_table a_grower a_short a_row a_tape a_least a_next : Nat → Nat) (n_row : Nat) (X : gx p s m args c b_Rt_stretches 6 R_Rt w_Rt_stretches D classes (tyK K) A) (hr : meth.sig.returnType = some .int) (hlk : meth.locks = false) (N : Nat) (r : Int32) (f_chart f_table : Nat → Nat → Int32) (s_self s_grammar s_chart s_table s_row : Nat → Nat → Int32) (v1 v2 v3 v4 : Int32) (kb : Int32 → Int32 → Option ((Int32) × (Nat → Nat → Int32) × (Nat → Nat → Int32))) (hkb : ∀ (v3 v4 : Int32), kb v3 v4 = some (r, f_chart, f_table) → Gd p l e rm_Rt_stretches s m args below meth c 0 0 (MQ below (sq D classes (tyK K) (some (.int r)) [wd_Rt K a_self (a_grammar 0) (a_chart 0) (a_grower 0) (a_short 0) (a_row 0) (a_tape 0) (a_least 0) (a_next 0) s_self, wd_Gr K a_grammar s_grammar, wd_Ch K a_chart (a_grammar 0) (a_table 0) f_chart, wd_Tt K a_table f_table, wd_Sy K a_row n_row s_row] A) args s 0 0 A) D classes A 6 38 [wd_Rt K a_self (a_grammar 0) (a_chart 0) (a_grower 0) (a_short 0) (a_row 0) (a_tape 0) (a_least 0) (a_next 0) s_self, wd_Gr K a_grammar s_grammar, wd_Ch K a_chart (a_grammar 0) (a_table 0) s_chart, wd_Tt K a_table s_table, wd_Sy K a_row n_row s_row] [(0, .ref (a_self 0)), (1, .int v1), (2, .int v2), (3, .int v3), (4, .int v4)] []) (kx94 : Int32 → Option ((Int32) × (Nat → Nat → Int32) × (Nat → Nat → Int32))) (hkx94 : ∀ (v3 : Int32), kx94 v3 = some (r, f_chart, f_table) → Gd p l e rm_Rt_stretches s m args below meth c 0 0 (MQ below (sq D classes (tyK K) (some (.int r)) [wd_Rt K a_self (a_grammar 0) (a_chart 0) (a_grower 0) (a_short 0) (a_row 0) (a_tape 0) (a_least 0) (a_next 0) s_self, wd_Gr K a_grammar s_grammar, wd_Ch K a_chart (a_grammar 0) (a_table 0) f_chart, wd_Tt K a_table f_table, wd_Sy K a_row n_row s_row] A) args s 0 0 A) D classes A 6 94 [wd_Rt K a_self (a_grammar 0) (a_chart 0) (a_grower 0) (a_short 0) (a_row 0) (a_tape 0) (a_least 0) (a_next 0) s_self, wd_Gr K a_grammar s_grammar, wd_Ch K a_chart (a_grammar 0) (a_table 0) s_chart, wd_Tt K a_table s_table, wd_Sy K a_row n_row s_row] [(3, .int v3)] []) (h : f_Rt_stretches_88 N n_row kb kx94 s_self s_grammar s_chart s_table s_row v1 v2 v3 v4 = some (r, f_chart, f_table)) : Gd p l e rm_Rt_stretches s m args below meth c 0 0 (MQ below (sq D classes (tyK K) (some (.int r)) [wd_Rt K a_self (a_grammar 0) (a_chart 0) (a_grower 0) (a_short 0) (a_row 0) (a_tape 0) (a_least 0) (a_next 0) s_self, wd_Gr K a_grammar s_grammar, wd_Ch K a_chart (a_grammar 0) (a_table 0) f_chart, wd_Tt K a_table f_table, wd_Sy K a_row n_row s_row] A) args s 0 0 A) D classes A 6 88 [wd_Rt K a_self (a_grammar 0) (a_chart 0) (a_grower 0) (a_short 0) (a_row 0) (a_tape 0) (a_least 0) (a_next 0) s_self, wd_Gr K a_grammar s_grammar, wd_Ch K a_chart (a_grammar 0) (a_table 0) s_chart, wd_Tt K a_table s_table, wd_Sy K a_row n_row s_row] [(0, .ref (a_self 0)), (1, .int v1), (2, .int v2), (3, .int v3), (4, .int v4)] [] := by
  unfold f_Rt_stretches_88 at h
  obtain ⟨v4_1, ev4_1, h⟩ := nm_e' h
  refine gd_iinc X (v := v4_1) (lv' := [(4, .int v4_1), (0, .ref (a_self 0)), (1, .int v1), (2, .int v2), (3, .int v3)]) d_Rt_stretches_88 (k := 4) rfl (by rw [ev4_1]; rfl) (by decide) rfl ?_
  refine gd_goto X (tgt := 38) d_Rt_stretches_91 (by decide) ?_
  refine gd_loc (lv' := [(0, .ref (a_self 0)), (1, .int v1), (2, .int v2), (3, .int v3), (4, .int v4_1)]) [1, 2, 3, 4, 0] rfl ?_
  exact hkb v3 v4_1 h
def l_Rt_stretches_53 (N : Nat) (n_row : Nat) (s_self s_grammar s_chart s_table s_row : Nat → Nat → Int32) (v1 v2 v4 : Int32) (kx88 : Int32 → Option ((Int32) × (Nat → Nat → Int32) × (Nat → Nat → Int32))) : Nat → Int32 → Int32 → Option ((Int32) × (Nat → Nat → Int32) × (Nat → Nat → Int32))
  | 0, _, _ => none
  | n + 1, v3, v5 => f_Rt_stretches_53 N n_row (l_Rt_stretches_53 N n_row s_self s_grammar s_chart s_table s_row v1 v2 v4 kx88 n) kx88 s_self s_grammar s_chart s_table s_row v1 v2 v3 v4 v5
set_option maxHeartbeats 4000000 in
set_option maxRecDepth 100000 in
theorem tl_Rt_stretches_53 {p : Program} {l : Launch} {e : Env} {s : State} {m : MethodId} {args : Array Value} {below : List Frame} {meth : Method} {c : Code} {A : Nat → Prop} {D : va_G} {K : Nat → ClassId} (a_self a_grammar a_chart a_table a_grower a_short a_row a_tape a_least a_next : Nat → Nat) (n_row : Nat) (X : gx p s m args c b_Rt_stretches 6 R_Rt w_Rt_stretches D classes (tyK K) A) (hr : meth.sig.returnType = some .int) (hlk : meth.locks = false) (N : Nat) (r : Int32) (f_chart f_table : Nat → Nat → Int32) (s_self s_grammar s_chart s_table s_row : Nat → Nat → Int32) (v1 v2 v4 : Int32) (kx88 : Int32 → Option ((Int32) × (Nat → Nat → Int32) × (Nat → Nat → Int32))) (hkx88 : ∀ (v3 : Int32), kx88 v3 = some (r, f_chart, f_table) → Gd p l e rm_Rt_stretches s m args below meth c 0 0 (MQ below (sq D classes (tyK K) (some (.int r)) [wd_Rt K a_self (a_grammar 0) (a_chart 0) (a_grower 0) (a_short 0) (a_row 0) (a_tape 0) (a_least 0) (a_next 0) s_self, wd_Gr K a_grammar s_grammar, wd_Ch K a_chart (a_grammar 0) (a_table 0) f_chart, wd_Tt K a_table f_table, wd_Sy K a_row n_row s_row] A) args s 0 0 A) D classes A 6 88 [wd_Rt K a_self (a_grammar 0) (a_chart 0) (a_grower 0) (a_short 0) (a_row 0) (a_tape 0) (a_least 0) (a_next 0) s_self, wd_Gr K a_grammar s_grammar, wd_Ch K a_chart (a_grammar 0) (a_table 0) s_chart, wd_Tt K a_table s_table, wd_Sy K a_row n_row s_row] [(0, .ref (a_self 0)), (1, .int v1), (2, .int v2), (3, .int v3), (4, .int v4)] []) : ∀ (n : Nat) (v3 v5 : Int32), l_Rt_stretches_53 N n_row s_self s_grammar s_chart s_table s_row v1 v2 v4 kx88 n v3 v5 = some (r, f_chart, f_table) → Gd p l e rm_Rt_stretches s m args below meth c 0 0 (MQ below (sq D classes (tyK K) (some (.int r)) [wd_Rt K a_self (a_grammar 0) (a_chart 0) (a_grower 0) (a_short 0) (a_row 0) (a_tape 0) (a_least 0) (a_next 0) s_self, wd_Gr K a_grammar s_grammar, wd_Ch K a_chart (a_grammar 0) (a_table 0) f_chart, wd_Tt K a_table f_table, wd_Sy K a_row n_row s_row] A) args s 0 0 A) D classes A 6 53 [wd_Rt K a_self (a_grammar 0) (a_chart 0) (a_grower 0) (a_short 0) (a_row 0) (a_tape 0) (a_least 0) (a_next 0) s_self, wd_Gr K a_grammar s_grammar, wd_Ch K a_chart (a_grammar 0) (a_table 0) s_chart, wd_Tt K a_table s_table, wd_Sy K a_row n_row s_row] [(0, .ref (a_self 0)), (1, .int v1), (2, .int v2), (3, .int v3), (4, .int v4), (5, .int v5)] [] := by
  intro n
  induction n with
  | zero => intro v3 v5 h; have h : (none : Option ((Int32) × (Nat → Nat → Int32) × (Nat → Nat → Int32))) = some _ := h; cases h
  | succ n ih =>
    intro v3 v5 h
    exact t_Rt_stretches_53 a_self a_grammar a_chart a_table a_grower a_short a_row a_tape a_least a_next n_row X hr hlk N r f_chart f_table s_self s_grammar s_chart s_table s_row v1 v2 v3 v4 v5 (l_Rt_stretches_53 N n_row s_self s_grammar s_chart s_table s_row v1 v2 v4 kx88 n) ih kx88 hkx88 h
def f_Rt_stretches_38 (N : Nat) (n_row : Nat) (kb : Int32 → Int32 → Option ((Int32) × (Nat → Nat → Int32) × (Nat → Nat → Int32))) (kx94 : Int32 → Option ((Int32) × (Nat → Nat → Int32) × (Nat → Nat → Int32))) (s_self s_grammar s_chart s_table s_row : Nat → Nat → Int32) (v1 v2 v3 v4 : Int32) : Option ((Int32) × (Nat → Nat → Int32) × (Nat → Nat → Int32)) :=
  if (s_row 0 1) < v4 then
    kx94 v3
  else
    l_Rt_stretches_53 N n_row s_self s_grammar s_chart s_table s_row v1 v2 v4 (fun v3 => f_Rt_stretches_88 N n_row kb kx94 s_self s_grammar s_chart s_table s_row v1 v2 v3 v4) N v3 0
set_option maxHeartbeats 4000000 in
set_option maxRecDepth 100000 in
theorem t_Rt_stretches_38 {p : Program} {l : Launch} {e : Env} {s : State} {m : MethodId} {args : Array Value} {below : List Frame} {meth : Method} {c : Code} {A : Nat → Prop} {D : va_G} {K : Nat → ClassId} (a_self a_grammar a_chart a_table a_grower a_short a_row a_tape a_least a_next : Nat → Nat) (n_row : Nat) (X : gx p s m args c b_Rt_stretches 6 R_Rt w_Rt_stretches D classes (tyK K) A) (hr : meth.sig.returnType = some .int) (hlk : meth.locks = false) (N : Nat) (r : Int32) (f_chart f_table : Nat → Nat → Int32) (s_self s_grammar s_chart s_table s_row : Nat → Nat → Int32) (v1 v2 v3 v4 : Int32) (kb : Int32 → Int32 → Option ((Int32) × (Nat → Nat → Int32) × (Nat → Nat → Int32))) (hkb : ∀ (v3 v4 : Int32), kb v3 v4 = some (r, f_chart, f_table) → Gd p l e rm_Rt_stretches s m args below meth c 0 0 (MQ below (sq D classes (tyK K) (some (.int r)) [wd_Rt K a_self (a_grammar 0) (a_chart 0) (a_grower 0) (a_short 0) (a_row 0) (a_tape 0) (a_least 0) (a_next 0) s_self, wd_Gr K a_grammar s_grammar, wd_Ch K a_chart (a_grammar 0) (a_table 0) f_chart, wd_Tt K a_table f_table, wd_Sy K a_row n_row s_row] A) args s 0 0 A) D classes A 6 38 [wd_Rt K a_self (a_grammar 0) (a_chart 0) (a_grower 0) (a_short 0) (a_row 0) (a_tape 0) (a_least 0) (a_next 0) s_self, wd_Gr K a_grammar s_grammar, wd_Ch K a_chart (a_grammar 0) (a_table 0) s_chart, wd_Tt K a_table s_table, wd_Sy K a_row n_row s_row] [(0, .ref (a_self 0)), (1, .int v1), (2, .int v2), (3, .int v3), (4, .int v4)] []) (kx94 : Int32 → Option ((Int32) × (Nat → Nat → Int32) × (Nat → Nat → Int32))) (hkx94 : ∀ (v3 : Int32), kx94 v3 = some (r, f_chart, f_table) → Gd p l e rm_Rt_stretches s m args below meth c 0 0 (MQ below (sq D classes (tyK K) (some (.int r)) [wd_Rt K a_self (a_grammar 0) (a_chart 0) (a_grower 0) (a_short 0) (a_row 0) (a_tape 0) (a_least 0) (a_next 0) s_self, wd_Gr K a_grammar s_grammar, wd_Ch K a_chart (a_grammar 0) (a_table 0) f_chart, wd_Tt K a_table f_table, wd_Sy K a_row n_row s_row] A) args s 0 0 A) D classes A 6 94 [wd_Rt K a_self (a_grammar 0) (a_chart 0) (a_grower 0) (a_short 0) (a_row 0) (a_tape 0) (a_least 0) (a_next 0) s_self, wd_Gr K a_grammar s_grammar, wd_Ch K a_chart (a_grammar 0) (a_table 0) s_chart, wd_Tt K a_table s_table, wd_Sy K a_row n_row s_row] [(3, .int v3)] []) (h : f_Rt_stretches_38 N n_row kb kx94 s_self s_grammar s_chart s_table s_row v1 v2 v3 v4 = some (r, f_chart, f_table)) : Gd p l e rm_Rt_stretches s m args below meth c 0 0 (MQ below (sq D classes (tyK K) (some (.int r)) [wd_Rt K a_self (a_grammar 0) (a_chart 0) (a_grower 0) (a_short 0) (a_row 0) (a_tape 0) (a_least 0) (a_next 0) s_self, wd_Gr K a_grammar s_grammar, wd_Ch K a_chart (a_grammar 0) (a_table 0) f_chart, wd_Tt K a_table f_table, wd_Sy K a_row n_row s_row] A) args s 0 0 A) D classes A 6 38 [wd_Rt K a_self (a_grammar 0) (a_chart 0) (a_grower 0) (a_short 0) (a_row 0) (a_tape 0) (a_least 0) (a_next 0) s_self, wd_Gr K a_grammar s_grammar, wd_Ch K a_chart (a_grammar 0) (a_table 0) s_chart, wd_Tt K a_table s_table, wd_Sy K a_row n_row s_row] [(0, .ref (a_self 0)), (1, .int v1), (2, .int v2), (3, .int v3), (4, .int v4)] [] := by
  unfold f_Rt_stretches_38 at h
  refine gd_iload X d_Rt_stretches_38 4 rfl ?_
  refine gd_aload_n X d_Rt_stretches_40 0 rfl ?_
  refine gd_get X (ci := 6) (C := R_Rt) (T := F_Rt) (N := 9) (v := .ref (a_row 0)) 0 0 rfl rfl rfl (in_Rt _) 4 (by decide) (List.mem_cons_of_mem _ fl_Rt_44) rfl rfl d_Rt_stretches_41 ?_
  refine gd_get X (ci := 0) (C := R_Sy) (T := F_Sy) (N := 2) (v := .int (s_row 0 1)) 4 0 rfl rfl rfl (in_Sy _) 1 (by decide) (List.mem_cons_of_mem _ fl_Rt_85) rfl rfl d_Rt_stretches_44 ?_
  refine gd_icmp_gt X (tgt := 94) d_Rt_stretches_47 (by decide) (fun c_1 => ?_) (fun c_1 => ?_)
  · replace h := it_p c_1 h
    refine gd_loc (lv' := [(3, .int v3)]) [3] rfl ?_
    exact hkx94 v3 h
  · replace h := it_n c_1 h
    refine gd_iconst X (v := 0) d_Rt_stretches_50 (by decide) ?_
    refine gd_istore X (lv' := [(5, .int 0), (0, .ref (a_self 0)), (1, .int v1), (2, .int v2), (3, .int v3), (4, .int v4)]) d_Rt_stretches_51 (by decide) rfl ?_
    refine gd_loc (lv' := [(0, .ref (a_self 0)), (1, .int v1), (2, .int v2), (3, .int v3), (4, .int v4), (5, .int 0)]) [1, 2, 3, 4, 5, 0] rfl ?_
    exact tl_Rt_stretches_53 a_self a_grammar a_chart a_table a_grower a_short a_row a_tape a_least a_next n_row X hr hlk N r f_chart f_table s_self s_grammar s_chart s_table s_row v1 v2 v4 (fun v3 => f_Rt_stretches_88 N n_row kb kx94 s_self s_grammar s_chart s_table s_row v1 v2 v3 v4) (fun v3 h => t_Rt_stretches_88 a_self a_grammar a_chart a_table a_grower a_short a_row a_tape a_least a_next n_row X hr hlk N r f_chart f_table s_self s_grammar s_chart s_table s_row v1 v2 v3 v4 kb hkb kx94 hkx94 h) N v3 0 h
def f_Rt_stretches_94 (N : Nat) (n_row : Nat) (s_self s_grammar s_chart s_table s_row : Nat → Nat → Int32) (v3 : Int32) : Option ((Int32) × (Nat → Nat → Int32) × (Nat → Nat → Int32)) :=
  some ((v3), s_chart, s_table)
set_option maxHeartbeats 4000000 in
set_option maxRecDepth 100000 in
theorem t_Rt_stretches_94 {p : Program} {l : Launch} {e : Env} {s : State} {m : MethodId} {args : Array Value} {below : List Frame} {meth : Method} {c : Code} {A : Nat → Prop} {D : va_G} {K : Nat → ClassId} (a_self a_grammar a_chart a_table a_grower a_short a_row a_tape a_least a_next : Nat → Nat) (n_row : Nat) (X : gx p s m args c b_Rt_stretches 6 R_Rt w_Rt_stretches D classes (tyK K) A) (hr : meth.sig.returnType = some .int) (hlk : meth.locks = false) (N : Nat) (r : Int32) (f_chart f_table : Nat → Nat → Int32) (s_self s_grammar s_chart s_table s_row : Nat → Nat → Int32) (v3 : Int32) (h : f_Rt_stretches_94 N n_row s_self s_grammar s_chart s_table s_row v3 = some (r, f_chart, f_table)) : Gd p l e rm_Rt_stretches s m args below meth c 0 0 (MQ below (sq D classes (tyK K) (some (.int r)) [wd_Rt K a_self (a_grammar 0) (a_chart 0) (a_grower 0) (a_short 0) (a_row 0) (a_tape 0) (a_least 0) (a_next 0) s_self, wd_Gr K a_grammar s_grammar, wd_Ch K a_chart (a_grammar 0) (a_table 0) f_chart, wd_Tt K a_table f_table, wd_Sy K a_row n_row s_row] A) args s 0 0 A) D classes A 6 94 [wd_Rt K a_self (a_grammar 0) (a_chart 0) (a_grower 0) (a_short 0) (a_row 0) (a_tape 0) (a_least 0) (a_next 0) s_self, wd_Gr K a_grammar s_grammar, wd_Ch K a_chart (a_grammar 0) (a_table 0) s_chart, wd_Tt K a_table s_table, wd_Sy K a_row n_row s_row] [(3, .int v3)] [] := by
  unfold f_Rt_stretches_94 at h
  refine gd_iload_n X d_Rt_stretches_94 0 rfl ?_
  cases h
  exact gd_iret X hr hlk d_Rt_stretches_95
def l_Rt_stretches_38 (N : Nat) (n_row : Nat) (s_self s_grammar s_chart s_table s_row : Nat → Nat → Int32) (v1 v2 : Int32) (kx94 : Int32 → Option ((Int32) × (Nat → Nat → Int32) × (Nat → Nat → Int32))) : Nat → Int32 → Int32 → Option ((Int32) × (Nat → Nat → Int32) × (Nat → Nat → Int32))
  | 0, _, _ => none
  | n + 1, v3, v4 => f_Rt_stretches_38 N n_row (l_Rt_stretches_38 N n_row s_self s_grammar s_chart s_table s_row v1 v2 kx94 n) kx94 s_self s_grammar s_chart s_table s_row v1 v2 v3 v4
set_option maxHeartbeats 4000000 in
set_option maxRecDepth 100000 in
theorem tl_Rt_stretches_38 {p : Program} {l : Launch} {e : Env} {s : State} {m : MethodId} {args : Array Value} {below : List Frame} {meth : Method} {c : Code} {A : Nat → Prop} {D : va_G} {K : Nat → ClassId} (a_self a_grammar a_chart a_table a_grower a_short a_row a_tape a_least a_next : Nat → Nat) (n_row : Nat) (X : gx p s m args c b_Rt_stretches 6 R_Rt w_Rt_stretches D classes (tyK K) A) (hr : meth.sig.returnType = some .int) (hlk : meth.locks = false) (N : Nat) (r : Int32) (f_chart f_table : Nat → Nat → Int32) (s_self s_grammar s_chart s_table s_row : Nat → Nat → Int32) (v1 v2 : Int32) (kx94 : Int32 → Option ((Int32) × (Nat → Nat → Int32) × (Nat → Nat → Int32))) (hkx94 : ∀ (v3 : Int32), kx94 v3 = some (r, f_chart, f_table) → Gd p l e rm_Rt_stretches s m args below meth c 0 0 (MQ below (sq D classes (tyK K) (some (.int r)) [wd_Rt K a_self (a_grammar 0) (a_chart 0) (a_grower 0) (a_short 0) (a_row 0) (a_tape 0) (a_least 0) (a_next 0) s_self, wd_Gr K a_grammar s_grammar, wd_Ch K a_chart (a_grammar 0) (a_table 0) f_chart, wd_Tt K a_table f_table, wd_Sy K a_row n_row s_row] A) args s 0 0 A) D classes A 6 94 [wd_Rt K a_self (a_grammar 0) (a_chart 0) (a_grower 0) (a_short 0) (a_row 0) (a_tape 0) (a_least 0) (a_next 0) s_self, wd_Gr K a_grammar s_grammar, wd_Ch K a_chart (a_grammar 0) (a_table 0) s_chart, wd_Tt K a_table s_table, wd_Sy K a_row n_row s_row] [(3, .int v3)] []) : ∀ (n : Nat) (v3 v4 : Int32), l_Rt_stretches_38 N n_row s_self s_grammar s_chart s_table s_row v1 v2 kx94 n v3 v4 = some (r, f_chart, f_table) → Gd p l e rm_Rt_stretches s m args below meth c 0 0 (MQ below (sq D classes (tyK K) (some (.int r)) [wd_Rt K a_self (a_grammar 0) (a_chart 0) (a_grower 0) (a_short 0) (a_row 0) (a_tape 0) (a_least 0) (a_next 0) s_self, wd_Gr K a_grammar s_grammar, wd_Ch K a_chart (a_grammar 0) (a_table 0) f_chart, wd_Tt K a_table f_table, wd_Sy K a_row n_row s_row] A) args s 0 0 A) D classes A 6 38 [wd_Rt K a_self (a_grammar 0) (a_chart 0) (a_grower 0) (a_short 0) (a_row 0) (a_tape 0) (a_least 0) (a_next 0) s_self, wd_Gr K a_grammar s_grammar, wd_Ch K a_chart (a_grammar 0) (a_table 0) s_chart, wd_Tt K a_table s_table, wd_Sy K a_row n_row s_row] [(0, .ref (a_self 0)), (1, .int v1), (2, .int v2), (3, .int v3), (4, .int v4)] [] := by
  intro n
  induction n with
  | zero => intro v3 v4 h; have h : (none : Option ((Int32) × (Nat → Nat → Int32) × (Nat → Nat → Int32))) = some _ := h; cases h
  | succ n ih =>
    intro v3 v4 h
    exact t_Rt_stretches_38 a_self a_grammar a_chart a_table a_grower a_short a_row a_tape a_least a_next n_row X hr hlk N r f_chart f_table s_self s_grammar s_chart s_table s_row v1 v2 v3 v4 (l_Rt_stretches_38 N n_row s_self s_grammar s_chart s_table s_row v1 v2 kx94 n) ih kx94 hkx94 h
def f_Rt_stretches_0 (N : Nat) (n_row : Nat) (s_self s_grammar s_chart s_table s_row : Nat → Nat → Int32) (v1 v2 : Int32) : Option ((Int32) × (Nat → Nat → Int32) × (Nat → Nat → Int32)) :=
  bd1 (m_Gr_hasSort s_grammar v1) fun r_1 =>
  if r_1 = 0 then
    some (((-1)), s_chart, s_table)
  else
    if v2 < 0 then
      some (((-1)), s_chart, s_table)
    else
      if v2 ≤ 3 then
        bd2 (m_Ch_catchUp N n_row s_chart s_grammar s_table s_row) fun s_chart_6 s_table_7 =>
        l_Rt_stretches_38 N n_row s_self s_grammar s_chart_6 s_table_7 s_row v1 v2 (fun v3 => f_Rt_stretches_94 N n_row s_self s_grammar s_chart_6 s_table_7 s_row v3) N 0 1
      else
        some (((-1)), s_chart, s_table)
set_option maxHeartbeats 4000000 in
set_option maxRecDepth 100000 in
theorem t_Rt_stretches_0 {p : Program} {l : Launch} {e : Env} {s : State} {m : MethodId} {args : Array Value} {below : List Frame} {meth : Method} {c : Code} {A : Nat → Prop} {D : va_G} {K : Nat → ClassId} (a_self a_grammar a_chart a_table a_grower a_short a_row a_tape a_least a_next : Nat → Nat) (n_row : Nat) (X : gx p s m args c b_Rt_stretches 6 R_Rt w_Rt_stretches D classes (tyK K) A) (hr : meth.sig.returnType = some .int) (hlk : meth.locks = false) (N : Nat) (r : Int32) (f_chart f_table : Nat → Nat → Int32) (s_self s_grammar s_chart s_table s_row : Nat → Nat → Int32) (v1 v2 : Int32) (h : f_Rt_stretches_0 N n_row s_self s_grammar s_chart s_table s_row v1 v2 = some (r, f_chart, f_table)) : Gd p l e rm_Rt_stretches s m args below meth c 0 0 (MQ below (sq D classes (tyK K) (some (.int r)) [wd_Rt K a_self (a_grammar 0) (a_chart 0) (a_grower 0) (a_short 0) (a_row 0) (a_tape 0) (a_least 0) (a_next 0) s_self, wd_Gr K a_grammar s_grammar, wd_Ch K a_chart (a_grammar 0) (a_table 0) f_chart, wd_Tt K a_table f_table, wd_Sy K a_row n_row s_row] A) args s 0 0 A) D classes A 6 0 [wd_Rt K a_self (a_grammar 0) (a_chart 0) (a_grower 0) (a_short 0) (a_row 0) (a_tape 0) (a_least 0) (a_next 0) s_self, wd_Gr K a_grammar s_grammar, wd_Ch K a_chart (a_grammar 0) (a_table 0) s_chart, wd_Tt K a_table s_table, wd_Sy K a_row n_row s_row] [(0, .ref (a_self 0)), (1, .int v1), (2, .int v2)] [] := by
  unfold f_Rt_stretches_0 at h
  refine gd_aload_n X d_Rt_stretches_0 0 rfl ?_
  refine gd_get X (ci := 6) (C := R_Rt) (T := F_Rt) (N := 9) (v := .ref (a_grammar 0)) 0 0 rfl rfl rfl (in_Rt _) 0 (by decide) (List.mem_cons_of_mem _ fl_Rt_12) rfl rfl d_Rt_stretches_1 ?_
  refine gd_iload_n X d_Rt_stretches_4 1 rfl ?_
  obtain ⟨r_1, hc_2, h⟩ := bd1_e h
  refine gd_pI X (gd_V X (As := [.int v1]) (rest := []) (c_Gr_hasSort l D K a_grammar s_grammar v1 r_1 hc_2) 1 (gi_V ml_Rt_91 u_Gr_hasSort) rfl ⟨rfl, rfl⟩ (by decide +kernel) ⟨by decide, by decide⟩ (ci := 1) rfl rfl rfl rfl rfl rfl (Nat.le_of_ble_eq_true rfl) ⟨Nat.zero_le _, Nat.zero_le _⟩ d_Rt_stretches_5) [1] rfl rfl ?_
  refine gd_if_eq X (tgt := 20) d_Rt_stretches_8 (by decide) (fun c_3 => ?_) (fun c_3 => ?_)
  · replace h := it_p c_3 h
    refine gd_iconst X (v := (-1)) d_Rt_stretches_20 (by decide) ?_
    cases h
    exact gd_iret X hr hlk d_Rt_stretches_21
  · replace h := it_n c_3 h
    refine gd_iload_n X d_Rt_stretches_11 2 rfl ?_
    refine gd_if_lt X (tgt := 20) d_Rt_stretches_12 (by decide) (fun c_4 => ?_) (fun c_4 => ?_)
    · replace h := it_p c_4 h
      refine gd_iconst X (v := (-1)) d_Rt_stretches_20 (by decide) ?_
      cases h
      exact gd_iret X hr hlk d_Rt_stretches_21
    · replace h := it_n c_4 h
      refine gd_iload_n X d_Rt_stretches_15 2 rfl ?_
      refine gd_iconst X (v := 3) d_Rt_stretches_16 (by decide) ?_
      refine gd_icmp_le X (tgt := 22) d_Rt_stretches_17 (by decide) (fun c_5 => ?_) (fun c_5 => ?_)
      · replace h := it_p c_5 h
        refine gd_aload_n X d_Rt_stretches_22 0 rfl ?_
        refine gd_get X (ci := 6) (C := R_Rt) (T := F_Rt) (N := 9) (v := .ref (a_chart 0)) 0 0 rfl rfl rfl (in_Rt _) 1 (by decide) (List.mem_cons_of_mem _ fl_Rt_21) rfl rfl d_Rt_stretches_23 ?_
        refine gd_aload_n X d_Rt_stretches_26 0 rfl ?_
        refine gd_get X (ci := 6) (C := R_Rt) (T := F_Rt) (N := 9) (v := .ref (a_row 0)) 0 0 rfl rfl rfl (in_Rt _) 4 (by decide) (List.mem_cons_of_mem _ fl_Rt_44) rfl rfl d_Rt_stretches_27 ?_
        obtain ⟨s_chart_6, s_table_7, hc_8, h⟩ := bd2_e h
        refine gd_cv X (gd_V X (As := [.ref (a_row 0)]) (rest := []) (c_Ch_catchUp l D K a_chart a_grammar a_table a_row n_row N s_chart s_grammar s_table s_row s_chart_6 s_table_7 hc_8) 1 (gi_V ml_Rt_94 u_Ch_catchUp) rfl ⟨rfl, rfl⟩ (by decide +kernel) ⟨by decide, by decide⟩ (ci := 3) rfl rfl rfl rfl rfl rfl (Nat.le_of_ble_eq_true rfl) ⟨Nat.zero_le _, Nat.zero_le _⟩ d_Rt_stretches_30) (w2 := [wd_Rt K a_self (a_grammar 0) (a_chart 0) (a_grower 0) (a_short 0) (a_row 0) (a_tape 0) (a_least 0) (a_next 0) s_self, wd_Gr K a_grammar s_grammar, wd_Ch K a_chart (a_grammar 0) (a_table 0) s_chart_6, wd_Tt K a_table s_table_7, wd_Sy K a_row n_row s_row]) [2, 1, 3, 4] [0] rfl rfl rfl rfl ⟨rfl, rfl⟩ rfl ?_
        refine gd_iconst X (v := 0) d_Rt_stretches_33 (by decide) ?_
        refine gd_istore_n X (lv' := [(3, .int 0), (0, .ref (a_self 0)), (1, .int v1), (2, .int v2)]) d_Rt_stretches_34 rfl (by decide) rfl ?_
        refine gd_iconst X (v := 1) d_Rt_stretches_35 (by decide) ?_
        refine gd_istore X (lv' := [(4, .int 1), (3, .int 0), (0, .ref (a_self 0)), (1, .int v1), (2, .int v2)]) d_Rt_stretches_36 (by decide) rfl ?_
        refine gd_loc (lv' := [(0, .ref (a_self 0)), (1, .int v1), (2, .int v2), (3, .int 0), (4, .int 1)]) [2, 3, 4, 1, 0] rfl ?_
        exact tl_Rt_stretches_38 a_self a_grammar a_chart a_table a_grower a_short a_row a_tape a_least a_next n_row X hr hlk N r f_chart f_table s_self s_grammar s_chart_6 s_table_7 s_row v1 v2 (fun v3 => f_Rt_stretches_94 N n_row s_self s_grammar s_chart_6 s_table_7 s_row v3) (fun v3 h => t_Rt_stretches_94 a_self a_grammar a_chart a_table a_grower a_short a_row a_tape a_least a_next n_row X hr hlk N r f_chart f_table s_self s_grammar s_chart_6 s_table_7 s_row v3 h) N 0 1 h
      · replace h := it_n c_5 h
        refine gd_iconst X (v := (-1)) d_Rt_stretches_20 (by decide) ?_
        cases h
        exact gd_iret X hr hlk d_Rt_stretches_21
def m_Rt_stretches (N : Nat) (n_row : Nat) (s_self s_grammar s_chart s_table s_row : Nat → Nat → Int32) (v1 v2 : Int32) : Option ((Int32) × (Nat → Nat → Int32) × (Nat → Nat → Int32)) := f_Rt_stretches_0 N n_row s_self s_grammar s_chart s_table s_row v1 v2
set_option maxHeartbeats 4000000 in
set_option maxRecDepth 100000 in
theorem c_Rt_stretches (l : Launch) (D : va_G) (K : Nat → ClassId) (a_self a_grammar a_chart a_table a_grower a_short a_row a_tape a_least a_next : Nat → Nat) (n_row : Nat) (N : Nat) (s_self s_grammar s_chart s_table s_row : Nat → Nat → Int32) (v1 v2 : Int32) (r : Int32) (f_chart f_table : Nat → Nat → Int32) (h : m_Rt_stretches N n_row s_self s_grammar s_chart s_table s_row v1 v2 = some (r, f_chart, f_table)) : SMet l y_Rt_stretches w_Rt_stretches rm_Rt_stretches D classes (tyK K) [.ref (a_self 0), .int v1, .int v2] (some (.int r)) [wd_Rt K a_self (a_grammar 0) (a_chart 0) (a_grower 0) (a_short 0) (a_row 0) (a_tape 0) (a_least 0) (a_next 0) s_self, wd_Gr K a_grammar s_grammar, wd_Ch K a_chart (a_grammar 0) (a_table 0) s_chart, wd_Tt K a_table s_table, wd_Sy K a_row n_row s_row] [wd_Rt K a_self (a_grammar 0) (a_chart 0) (a_grower 0) (a_short 0) (a_row 0) (a_tape 0) (a_least 0) (a_next 0) s_self, wd_Gr K a_grammar s_grammar, wd_Ch K a_chart (a_grammar 0) (a_table 0) f_chart, wd_Tt K a_table f_table, wd_Sy K a_row n_row s_row] := by
  refine sm_of R_Rt (by decide) rfl rfl (Nat.le_of_ble_eq_true rfl) ?_
  intro p e s m below meth c A X hr hlk
  refine gd_loc (lv' := [(0, .ref (a_self 0)), (1, .int v1), (2, .int v2)]) [0, 1, 2] rfl ?_
  exact t_Rt_stretches_0 a_self a_grammar a_chart a_table a_grower a_short a_row a_tape a_least a_next n_row X hr hlk N r f_chart f_table s_self s_grammar s_chart s_table s_row v1 v2 h
abbrev b_Rt_type : ByteArray := prog_1_method_13_code
def y_Rt_type : MethodName := ⟨R_Rt, "type", "(I)I"⟩
def w_Rt_type : List Cond := .code y_Rt_type b_Rt_type 2 (some .int) :: TB
theorem k_Rt_type : Cond.code y_Rt_type b_Rt_type 2 (some .int) ∈ TB := tb_of 589 (by decide +kernel) (by decide +kernel)
theorem d_Rt_type_0 : decode b_Rt_type 0 = .ok (.aload_n 0, 1) := by decide +kernel
theorem d_Rt_type_1 : decode b_Rt_type 1 = .ok (.getfield 48, 3) := by decide +kernel
theorem d_Rt_type_4 : decode b_Rt_type 4 = .ok (.iload_n 1, 1) := by decide +kernel
theorem d_Rt_type_5 : decode b_Rt_type 5 = .ok (.invokevirtual 82, 3) := by decide +kernel
theorem d_Rt_type_8 : decode b_Rt_type 8 = .ok (.ifCond .eq 13, 3) := by decide +kernel
theorem d_Rt_type_11 : decode b_Rt_type 11 = .ok (.aload_n 0, 1) := by decide +kernel
theorem d_Rt_type_12 : decode b_Rt_type 12 = .ok (.getfield 48, 3) := by decide +kernel
theorem d_Rt_type_15 : decode b_Rt_type 15 = .ok (.getfield 85, 3) := by decide +kernel
theorem d_Rt_type_18 : decode b_Rt_type 18 = .ok (.goto 4, 3) := by decide +kernel
theorem d_Rt_type_21 : decode b_Rt_type 21 = .ok (.iconst (-1), 1) := by decide +kernel
theorem d_Rt_type_22 : decode b_Rt_type 22 = .ok (.ireturn, 1) := by decide +kernel
theorem fl_Rt_48 : Cond.fieldLink R_Rt 48 "RuleTrees" "tape" "LRuleTrees$Symbols;" ∈ TB := tb_of 266 (by decide +kernel) (by decide +kernel)
abbrev rm_Rt_type : Room := { frames := 1, cells := 0, slots := 0, locals := 21 }
def f_Rt_type_0 (n_tape : Nat) (s_self s_tape : Nat → Nat → Int32) (v1 : Int32) : Option ((Int32) × (Nat → Nat → Int32)) :=
  bd2 (m_Sy_append n_tape s_tape v1) fun r_1 s_tape_2 =>
  if r_1 = 0 then
    some (((-1)), s_tape_2)
  else
    some ((s_tape_2 0 1), s_tape_2)
set_option maxHeartbeats 4000000 in
set_option maxRecDepth 100000 in
theorem t_Rt_type_0 {p : Program} {l : Launch} {e : Env} {s : State} {m : MethodId} {args : Array Value} {below : List Frame} {meth : Method} {c : Code} {A : Nat → Prop} {D : va_G} {K : Nat → ClassId} (a_self a_grammar a_chart a_grower a_short a_row a_tape a_least a_next : Nat → Nat) (n_tape : Nat) (X : gx p s m args c b_Rt_type 2 R_Rt w_Rt_type D classes (tyK K) A) (hr : meth.sig.returnType = some .int) (hlk : meth.locks = false) (r : Int32) (f_tape : Nat → Nat → Int32) (s_self s_tape : Nat → Nat → Int32) (v1 : Int32) (h : f_Rt_type_0 n_tape s_self s_tape v1 = some (r, f_tape)) : Gd p l e rm_Rt_type s m args below meth c 0 0 (MQ below (sq D classes (tyK K) (some (.int r)) [wd_Rt K a_self (a_grammar 0) (a_chart 0) (a_grower 0) (a_short 0) (a_row 0) (a_tape 0) (a_least 0) (a_next 0) s_self, wd_Sy K a_tape n_tape f_tape] A) args s 0 0 A) D classes A 2 0 [wd_Rt K a_self (a_grammar 0) (a_chart 0) (a_grower 0) (a_short 0) (a_row 0) (a_tape 0) (a_least 0) (a_next 0) s_self, wd_Sy K a_tape n_tape s_tape] [(0, .ref (a_self 0)), (1, .int v1)] [] := by
  unfold f_Rt_type_0 at h
  refine gd_aload_n X d_Rt_type_0 0 rfl ?_
  refine gd_get X (ci := 6) (C := R_Rt) (T := F_Rt) (N := 9) (v := .ref (a_tape 0)) 0 0 rfl rfl rfl (in_Rt _) 5 (by decide) (List.mem_cons_of_mem _ fl_Rt_48) rfl rfl d_Rt_type_1 ?_
  refine gd_iload_n X d_Rt_type_4 1 rfl ?_
  obtain ⟨r_1, s_tape_2, hc_3, h⟩ := bd2_e h
  refine gd_cI X (gd_V X (As := [.int v1]) (rest := []) (c_Sy_append l D K a_tape n_tape s_tape v1 r_1 s_tape_2 hc_3) 1 (gi_V ml_Rt_82 u_Sy_append) rfl ⟨rfl, rfl⟩ (by decide +kernel) ⟨by decide, by decide⟩ (ci := 0) rfl rfl rfl rfl rfl rfl (Nat.le_of_ble_eq_true rfl) ⟨Nat.zero_le _, Nat.zero_le _⟩ d_Rt_type_5) (w2 := [wd_Rt K a_self (a_grammar 0) (a_chart 0) (a_grower 0) (a_short 0) (a_row 0) (a_tape 0) (a_least 0) (a_next 0) s_self, wd_Sy K a_tape n_tape s_tape_2]) [1] [0] rfl rfl rfl rfl ⟨rfl, rfl⟩ rfl ?_
  refine gd_if_eq X (tgt := 21) d_Rt_type_8 (by decide) (fun c_4 => ?_) (fun c_4 => ?_)
  · replace h := it_p c_4 h
    refine gd_iconst X (v := (-1)) d_Rt_type_21 (by decide) ?_
    cases h
    exact gd_iret X hr hlk d_Rt_type_22
  · replace h := it_n c_4 h
    refine gd_aload_n X d_Rt_type_11 0 rfl ?_
    refine gd_get X (ci := 6) (C := R_Rt) (T := F_Rt) (N := 9) (v := .ref (a_tape 0)) 0 0 rfl rfl rfl (in_Rt _) 5 (by decide) (List.mem_cons_of_mem _ fl_Rt_48) rfl rfl d_Rt_type_12 ?_
    refine gd_get X (ci := 0) (C := R_Sy) (T := F_Sy) (N := 2) (v := .int (s_tape_2 0 1)) 1 0 rfl rfl rfl (in_Sy _) 1 (by decide) (List.mem_cons_of_mem _ fl_Rt_85) rfl rfl d_Rt_type_15 ?_
    refine gd_goto X (tgt := 22) d_Rt_type_18 (by decide) ?_
    cases h
    exact gd_iret X hr hlk d_Rt_type_22
def m_Rt_type (n_tape : Nat) (s_self s_tape : Nat → Nat → Int32) (v1 : Int32) : Option ((Int32) × (Nat → Nat → Int32)) := f_Rt_type_0 n_tape s_self s_tape v1
set_option maxHeartbeats 4000000 in
set_option maxRecDepth 100000 in
theorem c_Rt_type (l : Launch) (D : va_G) (K : Nat → ClassId) (a_self a_grammar a_chart a_grower a_short a_row a_tape a_least a_next : Nat → Nat) (n_tape : Nat) (s_self s_tape : Nat → Nat → Int32) (v1 : Int32) (r : Int32) (f_tape : Nat → Nat → Int32) (h : m_Rt_type n_tape s_self s_tape v1 = some (r, f_tape)) : SMet l y_Rt_type w_Rt_type rm_Rt_type D classes (tyK K) [.ref (a_self 0), .int v1] (some (.int r)) [wd_Rt K a_self (a_grammar 0) (a_chart 0) (a_grower 0) (a_short 0) (a_row 0) (a_tape 0) (a_least 0) (a_next 0) s_self, wd_Sy K a_tape n_tape s_tape] [wd_Rt K a_self (a_grammar 0) (a_chart 0) (a_grower 0) (a_short 0) (a_row 0) (a_tape 0) (a_least 0) (a_next 0) s_self, wd_Sy K a_tape n_tape f_tape] := by
  refine sm_of R_Rt (by decide) rfl rfl (Nat.le_of_ble_eq_true rfl) ?_
  intro p e s m below meth c A X hr hlk
  refine gd_loc (lv' := [(0, .ref (a_self 0)), (1, .int v1)]) [0, 1] rfl ?_
  exact t_Rt_type_0 a_self a_grammar a_chart a_grower a_short a_row a_tape a_least a_next n_tape X hr hlk r f_tape s_self s_tape v1 h
abbrev b_Rt_clear : ByteArray := prog_1_method_14_code
def y_Rt_clear : MethodName := ⟨R_Rt, "clear", "()I"⟩
def w_Rt_clear : List Cond := .code y_Rt_clear b_Rt_clear 1 (some .int) :: TB
theorem k_Rt_clear : Cond.code y_Rt_clear b_Rt_clear 1 (some .int) ∈ TB := tb_of 593 (by decide +kernel) (by decide +kernel)
theorem d_Rt_clear_0 : decode b_Rt_clear 0 = .ok (.aload_n 0, 1) := by decide +kernel
theorem d_Rt_clear_1 : decode b_Rt_clear 1 = .ok (.getfield 48, 3) := by decide +kernel
theorem d_Rt_clear_4 : decode b_Rt_clear 4 = .ok (.invokevirtual 88, 3) := by decide +kernel
theorem d_Rt_clear_7 : decode b_Rt_clear 7 = .ok (.ireturn, 1) := by decide +kernel
abbrev rm_Rt_clear : Room := { frames := 1, cells := 0, slots := 0, locals := 21 }
def f_Rt_clear_0 (n_tape : Nat) (s_self s_tape : Nat → Nat → Int32) : Option ((Int32) × (Nat → Nat → Int32)) :=
  bd2 (m_Sy_empty n_tape s_tape) fun r_1 s_tape_2 =>
  some ((r_1), s_tape_2)
set_option maxHeartbeats 4000000 in
set_option maxRecDepth 100000 in
theorem t_Rt_clear_0 {p : Program} {l : Launch} {e : Env} {s : State} {m : MethodId} {args : Array Value} {below : List Frame} {meth : Method} {c : Code} {A : Nat → Prop} {D : va_G} {K : Nat → ClassId} (a_self a_grammar a_chart a_grower a_short a_row a_tape a_least a_next : Nat → Nat) (n_tape : Nat) (X : gx p s m args c b_Rt_clear 1 R_Rt w_Rt_clear D classes (tyK K) A) (hr : meth.sig.returnType = some .int) (hlk : meth.locks = false) (r : Int32) (f_tape : Nat → Nat → Int32) (s_self s_tape : Nat → Nat → Int32) (h : f_Rt_clear_0 n_tape s_self s_tape = some (r, f_tape)) : Gd p l e rm_Rt_clear s m args below meth c 0 0 (MQ below (sq D classes (tyK K) (some (.int r)) [wd_Rt K a_self (a_grammar 0) (a_chart 0) (a_grower 0) (a_short 0) (a_row 0) (a_tape 0) (a_least 0) (a_next 0) s_self, wd_Sy K a_tape n_tape f_tape] A) args s 0 0 A) D classes A 1 0 [wd_Rt K a_self (a_grammar 0) (a_chart 0) (a_grower 0) (a_short 0) (a_row 0) (a_tape 0) (a_least 0) (a_next 0) s_self, wd_Sy K a_tape n_tape s_tape] [(0, .ref (a_self 0))] [] := by
  unfold f_Rt_clear_0 at h
  refine gd_aload_n X d_Rt_clear_0 0 rfl ?_
  refine gd_get X (ci := 6) (C := R_Rt) (T := F_Rt) (N := 9) (v := .ref (a_tape 0)) 0 0 rfl rfl rfl (in_Rt _) 5 (by decide) (List.mem_cons_of_mem _ fl_Rt_48) rfl rfl d_Rt_clear_1 ?_
  obtain ⟨r_1, s_tape_2, hc_3, h⟩ := bd2_e h
  refine gd_cI X (gd_V X (As := []) (rest := []) (c_Sy_empty l D K a_tape n_tape s_tape r_1 s_tape_2 hc_3) 0 (gi_V ml_Rt_88 u_Sy_empty) rfl ⟨rfl, rfl⟩ (by decide +kernel) ⟨by decide, by decide⟩ (ci := 0) rfl rfl rfl rfl rfl rfl (Nat.le_of_ble_eq_true rfl) ⟨Nat.zero_le _, Nat.zero_le _⟩ d_Rt_clear_4) (w2 := [wd_Rt K a_self (a_grammar 0) (a_chart 0) (a_grower 0) (a_short 0) (a_row 0) (a_tape 0) (a_least 0) (a_next 0) s_self, wd_Sy K a_tape n_tape s_tape_2]) [1] [0] rfl rfl rfl rfl ⟨rfl, rfl⟩ rfl ?_
  cases h
  exact gd_iret X hr hlk d_Rt_clear_7
def m_Rt_clear (n_tape : Nat) (s_self s_tape : Nat → Nat → Int32) : Option ((Int32) × (Nat → Nat → Int32)) := f_Rt_clear_0 n_tape s_self s_tape
set_option maxHeartbeats 4000000 in
set_option maxRecDepth 100000 in
theorem c_Rt_clear (l : Launch) (D : va_G) (K : Nat → ClassId) (a_self a_grammar a_chart a_grower a_short a_row a_tape a_least a_next : Nat → Nat) (n_tape : Nat) (s_self s_tape : Nat → Nat → Int32) (r : Int32) (f_tape : Nat → Nat → Int32) (h : m_Rt_clear n_tape s_self s_tape = some (r, f_tape)) : SMet l y_Rt_clear w_Rt_clear rm_Rt_clear D classes (tyK K) [.ref (a_self 0)] (some (.int r)) [wd_Rt K a_self (a_grammar 0) (a_chart 0) (a_grower 0) (a_short 0) (a_row 0) (a_tape 0) (a_least 0) (a_next 0) s_self, wd_Sy K a_tape n_tape s_tape] [wd_Rt K a_self (a_grammar 0) (a_chart 0) (a_grower 0) (a_short 0) (a_row 0) (a_tape 0) (a_least 0) (a_next 0) s_self, wd_Sy K a_tape n_tape f_tape] := by
  refine sm_of R_Rt (by decide) rfl rfl (Nat.le_of_ble_eq_true rfl) ?_
  intro p e s m below meth c A X hr hlk
  refine gd_loc (lv' := [(0, .ref (a_self 0))]) [0] rfl ?_
  exact t_Rt_clear_0 a_self a_grammar a_chart a_grower a_short a_row a_tape a_least a_next n_tape X hr hlk r f_tape s_self s_tape h
abbrev b_Rt_grow : ByteArray := prog_1_method_15_code
def y_Rt_grow : MethodName := ⟨R_Rt, "grow", "(I)I"⟩
def w_Rt_grow : List Cond := .code y_Rt_grow b_Rt_grow 3 (some .int) :: TB
theorem k_Rt_grow : Cond.code y_Rt_grow b_Rt_grow 3 (some .int) ∈ TB := tb_of 597 (by decide +kernel) (by decide +kernel)
theorem d_Rt_grow_0 : decode b_Rt_grow 0 = .ok (.aload_n 0, 1) := by decide +kernel
theorem d_Rt_grow_1 : decode b_Rt_grow 1 = .ok (.getfield 12, 3) := by decide +kernel
theorem d_Rt_grow_4 : decode b_Rt_grow 4 = .ok (.iload_n 1, 1) := by decide +kernel
theorem d_Rt_grow_5 : decode b_Rt_grow 5 = .ok (.invokevirtual 91, 3) := by decide +kernel
theorem d_Rt_grow_8 : decode b_Rt_grow 8 = .ok (.ifCond .ne 5, 3) := by decide +kernel
theorem d_Rt_grow_11 : decode b_Rt_grow 11 = .ok (.iconst (-1), 1) := by decide +kernel
theorem d_Rt_grow_12 : decode b_Rt_grow 12 = .ok (.ireturn, 1) := by decide +kernel
theorem d_Rt_grow_13 : decode b_Rt_grow 13 = .ok (.aload_n 0, 1) := by decide +kernel
theorem d_Rt_grow_14 : decode b_Rt_grow 14 = .ok (.getfield 28, 3) := by decide +kernel
theorem d_Rt_grow_17 : decode b_Rt_grow 17 = .ok (.aload_n 0, 1) := by decide +kernel
theorem d_Rt_grow_18 : decode b_Rt_grow 18 = .ok (.getfield 48, 3) := by decide +kernel
theorem d_Rt_grow_21 : decode b_Rt_grow 21 = .ok (.iload_n 1, 1) := by decide +kernel
theorem d_Rt_grow_22 : decode b_Rt_grow 22 = .ok (.invokevirtual 123, 3) := by decide +kernel
theorem d_Rt_grow_25 : decode b_Rt_grow 25 = .ok (.istore_n 2, 1) := by decide +kernel
theorem d_Rt_grow_26 : decode b_Rt_grow 26 = .ok (.aload_n 0, 1) := by decide +kernel
theorem d_Rt_grow_27 : decode b_Rt_grow 27 = .ok (.aload_n 0, 1) := by decide +kernel
theorem d_Rt_grow_28 : decode b_Rt_grow 28 = .ok (.getfield 28, 3) := by decide +kernel
theorem d_Rt_grow_31 : decode b_Rt_grow 31 = .ok (.getfield 127, 3) := by decide +kernel
theorem d_Rt_grow_34 : decode b_Rt_grow 34 = .ok (.putfield 57, 3) := by decide +kernel
theorem d_Rt_grow_37 : decode b_Rt_grow 37 = .ok (.iload_n 2, 1) := by decide +kernel
theorem d_Rt_grow_38 : decode b_Rt_grow 38 = .ok (.ifCond .ne 17, 3) := by decide +kernel
theorem d_Rt_grow_41 : decode b_Rt_grow 41 = .ok (.aload_n 0, 1) := by decide +kernel
theorem d_Rt_grow_42 : decode b_Rt_grow 42 = .ok (.getfield 44, 3) := by decide +kernel
theorem d_Rt_grow_45 : decode b_Rt_grow 45 = .ok (.aload_n 0, 1) := by decide +kernel
theorem d_Rt_grow_46 : decode b_Rt_grow 46 = .ok (.getfield 28, 3) := by decide +kernel
theorem d_Rt_grow_49 : decode b_Rt_grow 49 = .ok (.getfield 130, 3) := by decide +kernel
theorem d_Rt_grow_52 : decode b_Rt_grow 52 = .ok (.invokevirtual 133, 3) := by decide +kernel
theorem d_Rt_grow_55 : decode b_Rt_grow 55 = .ok (.iload_n 2, 1) := by decide +kernel
theorem d_Rt_grow_56 : decode b_Rt_grow 56 = .ok (.ireturn, 1) := by decide +kernel
theorem fl_Rt_28 : Cond.fieldLink R_Rt 28 "RuleTrees" "grower" "LRuleTrees$Grower;" ∈ TB := tb_of 263 (by decide +kernel) (by decide +kernel)
theorem ml_Rt_123 : Cond.methodLink R_Rt 123 ⟨"RuleTrees$Grower", "judge", "(LRuleTrees$Symbols;I)I"⟩ ∈ TB := tb_of 598 (by decide +kernel) (by decide +kernel)
theorem u_Gw_judge : (Cond.instanceMethod y_Gw_judge ∈ TB ∧ Cond.selects R_Gw y_Gw_judge y_Gw_judge ∈ TB) ∧ Cond.initialized R_Gw ∈ TB ∧ Cond.code y_Gw_judge b_Gw_judge 4 (some .int) ∈ TB := ⟨⟨(tb_of 599 (by decide +kernel) (by decide +kernel)), (tb_of 600 (by decide +kernel) (by decide +kernel))⟩, (tb_of 66 (by decide +kernel) (by decide +kernel)), k_Gw_judge⟩
theorem fl_Rt_127 : Cond.fieldLink R_Rt 127 "RuleTrees$Grower" "faultPlace" "I" ∈ TB := tb_of 230 (by decide +kernel) (by decide +kernel)
theorem fl_Rt_57 : Cond.fieldLink R_Rt 57 "RuleTrees" "latestPlace" "I" ∈ TB := tb_of 269 (by decide +kernel) (by decide +kernel)
theorem fl_Rt_130 : Cond.fieldLink R_Rt 130 "RuleTrees$Grower" "grown" "LRuleTrees$Symbols;" ∈ TB := tb_of 225 (by decide +kernel) (by decide +kernel)
theorem ml_Rt_133 : Cond.methodLink R_Rt 133 ⟨"RuleTrees$Symbols", "copyOf", "(LRuleTrees$Symbols;)V"⟩ ∈ TB := tb_of 636 (by decide +kernel) (by decide +kernel)
theorem u_Sy_copyOf : (Cond.instanceMethod y_Sy_copyOf ∈ TB ∧ Cond.selects R_Sy y_Sy_copyOf y_Sy_copyOf ∈ TB) ∧ Cond.initialized R_Sy ∈ TB ∧ Cond.code y_Sy_copyOf b_Sy_copyOf 3 none ∈ TB := ⟨⟨(tb_of 637 (by decide +kernel) (by decide +kernel)), (tb_of 638 (by decide +kernel) (by decide +kernel))⟩, (tb_of 67 (by decide +kernel) (by decide +kernel)), k_Sy_copyOf⟩
abbrev rm_Rt_grow : Room := { frames := 5, cells := 0, slots := 0, locals := 115 }
def f_Rt_grow_0 (N : Nat) (n_grown : Nat) (n_joined : Nat) (n_row : Nat) (n_tape : Nat) (s_self s_grammar s_grower s_grown s_joined s_row s_tape : Nat → Nat → Int32) (v1 : Int32) : Option ((Int32) × (Nat → Nat → Int32) × (Nat → Nat → Int32) × (Nat → Nat → Int32) × (Nat → Nat → Int32) × (Nat → Nat → Int32)) :=
  bd1 (m_Gr_hasSort s_grammar v1) fun r_1 =>
  if r_1 = 0 then
    some (((-1)), s_self, s_grower, s_grown, s_joined, s_row)
  else
    bd4 (m_Gw_judge N n_grown n_joined n_tape s_grower s_grammar s_grown s_joined s_tape v1) fun r_4 s_grower_5 s_grown_6 s_joined_7 =>
    nm (st2 s_self 0 8 (s_grower_5 0 6)) fun s_self_9 =>
    if r_4 = 0 then
      bd1 (m_Sy_copyOf N n_row n_grown s_row s_grown_6) fun s_row_11 =>
      some ((r_4), s_self_9, s_grower_5, s_grown_6, s_joined_7, s_row_11)
    else
      some ((r_4), s_self_9, s_grower_5, s_grown_6, s_joined_7, s_row)
set_option maxHeartbeats 4000000 in
set_option maxRecDepth 100000 in
theorem t_Rt_grow_0 {p : Program} {l : Launch} {e : Env} {s : State} {m : MethodId} {args : Array Value} {below : List Frame} {meth : Method} {c : Code} {A : Nat → Prop} {D : va_G} {K : Nat → ClassId} (a_self a_grammar a_chart a_grower a_grown a_joined a_short a_row a_tape a_least a_next : Nat → Nat) (n_grown : Nat) (n_joined : Nat) (n_row : Nat) (n_tape : Nat) (X : gx p s m args c b_Rt_grow 3 R_Rt w_Rt_grow D classes (tyK K) A) (hr : meth.sig.returnType = some .int) (hlk : meth.locks = false) (N : Nat) (r : Int32) (f_self f_grower f_grown f_joined f_row : Nat → Nat → Int32) (s_self s_grammar s_grower s_grown s_joined s_row s_tape : Nat → Nat → Int32) (v1 : Int32) (h : f_Rt_grow_0 N n_grown n_joined n_row n_tape s_self s_grammar s_grower s_grown s_joined s_row s_tape v1 = some (r, f_self, f_grower, f_grown, f_joined, f_row)) : Gd p l e rm_Rt_grow s m args below meth c 0 0 (MQ below (sq D classes (tyK K) (some (.int r)) [wd_Rt K a_self (a_grammar 0) (a_chart 0) (a_grower 0) (a_short 0) (a_row 0) (a_tape 0) (a_least 0) (a_next 0) f_self, wd_Gr K a_grammar s_grammar, wd_Gw K a_grower (a_grammar 0) (a_grown 0) (a_joined 0) f_grower, wd_Sy K a_grown n_grown f_grown, wd_Sy K a_joined n_joined f_joined, wd_Sy K a_row n_row f_row, wd_Sy K a_tape n_tape s_tape] A) args s 0 0 A) D classes A 3 0 [wd_Rt K a_self (a_grammar 0) (a_chart 0) (a_grower 0) (a_short 0) (a_row 0) (a_tape 0) (a_least 0) (a_next 0) s_self, wd_Gr K a_grammar s_grammar, wd_Gw K a_grower (a_grammar 0) (a_grown 0) (a_joined 0) s_grower, wd_Sy K a_grown n_grown s_grown, wd_Sy K a_joined n_joined s_joined, wd_Sy K a_row n_row s_row, wd_Sy K a_tape n_tape s_tape] [(0, .ref (a_self 0)), (1, .int v1)] [] := by
  unfold f_Rt_grow_0 at h
  refine gd_aload_n X d_Rt_grow_0 0 rfl ?_
  refine gd_get X (ci := 6) (C := R_Rt) (T := F_Rt) (N := 9) (v := .ref (a_grammar 0)) 0 0 rfl rfl rfl (in_Rt _) 0 (by decide) (List.mem_cons_of_mem _ fl_Rt_12) rfl rfl d_Rt_grow_1 ?_
  refine gd_iload_n X d_Rt_grow_4 1 rfl ?_
  obtain ⟨r_1, hc_2, h⟩ := bd1_e h
  refine gd_pI X (gd_V X (As := [.int v1]) (rest := []) (c_Gr_hasSort l D K a_grammar s_grammar v1 r_1 hc_2) 1 (gi_V ml_Rt_91 u_Gr_hasSort) rfl ⟨rfl, rfl⟩ (by decide +kernel) ⟨by decide, by decide⟩ (ci := 1) rfl rfl rfl rfl rfl rfl (Nat.le_of_ble_eq_true rfl) ⟨Nat.zero_le _, Nat.zero_le _⟩ d_Rt_grow_5) [1] rfl rfl ?_
  refine gd_if_ne X (tgt := 13) d_Rt_grow_8 (by decide) (fun c_3 => ?_) (fun c_3 => ?_)
  · replace h := it_n c_3 h
    refine gd_aload_n X d_Rt_grow_13 0 rfl ?_
    refine gd_get X (ci := 6) (C := R_Rt) (T := F_Rt) (N := 9) (v := .ref (a_grower 0)) 0 0 rfl rfl rfl (in_Rt _) 2 (by decide) (List.mem_cons_of_mem _ fl_Rt_28) rfl rfl d_Rt_grow_14 ?_
    refine gd_aload_n X d_Rt_grow_17 0 rfl ?_
    refine gd_get X (ci := 6) (C := R_Rt) (T := F_Rt) (N := 9) (v := .ref (a_tape 0)) 0 0 rfl rfl rfl (in_Rt _) 5 (by decide) (List.mem_cons_of_mem _ fl_Rt_48) rfl rfl d_Rt_grow_18 ?_
    refine gd_iload_n X d_Rt_grow_21 1 rfl ?_
    obtain ⟨r_4, s_grower_5, s_grown_6, s_joined_7, hc_8, h⟩ := bd4_e h
    refine gd_cI X (gd_V X (As := [.ref (a_tape 0), .int v1]) (rest := []) (c_Gw_judge l D K a_grower a_grammar a_grown a_joined a_tape n_grown n_joined n_tape N s_grower s_grammar s_grown s_joined s_tape v1 r_4 s_grower_5 s_grown_6 s_joined_7 hc_8) 2 (gi_V ml_Rt_123 u_Gw_judge) rfl ⟨rfl, rfl⟩ (by decide +kernel) ⟨by decide, by decide⟩ (ci := 4) rfl rfl rfl rfl rfl rfl (Nat.le_of_ble_eq_true rfl) ⟨Nat.zero_le _, Nat.zero_le _⟩ d_Rt_grow_22) (w2 := [wd_Rt K a_self (a_grammar 0) (a_chart 0) (a_grower 0) (a_short 0) (a_row 0) (a_tape 0) (a_least 0) (a_next 0) s_self, wd_Gr K a_grammar s_grammar, wd_Gw K a_grower (a_grammar 0) (a_grown 0) (a_joined 0) s_grower_5, wd_Sy K a_grown n_grown s_grown_6, wd_Sy K a_joined n_joined s_joined_7, wd_Sy K a_row n_row s_row, wd_Sy K a_tape n_tape s_tape]) [2, 1, 3, 4, 6] [0, 5] rfl rfl rfl rfl ⟨rfl, rfl⟩ rfl ?_
    refine gd_istore_n X (lv' := [(2, .int r_4), (0, .ref (a_self 0)), (1, .int v1)]) d_Rt_grow_25 rfl (by decide) rfl ?_
    refine gd_aload_n X d_Rt_grow_26 1 rfl ?_
    refine gd_aload_n X d_Rt_grow_27 1 rfl ?_
    refine gd_get X (ci := 6) (C := R_Rt) (T := F_Rt) (N := 9) (v := .ref (a_grower 0)) 0 0 rfl rfl rfl (in_Rt _) 2 (by decide) (List.mem_cons_of_mem _ fl_Rt_28) rfl rfl d_Rt_grow_28 ?_
    refine gd_get X (ci := 4) (C := R_Gw) (T := F_Gw) (N := 7) (v := .int (s_grower_5 0 6)) 2 0 rfl rfl rfl (in_Gw _) 6 (by decide) (List.mem_cons_of_mem _ fl_Rt_127) rfl rfl d_Rt_grow_31 ?_
    obtain ⟨s_self_9, es_self_9, h⟩ := nm_e' h
    refine gd_put X (ci := 6) (C := R_Rt) (T := F_Rt) (N := 9) (ty := .int) (w' := [wd_Rt K a_self (a_grammar 0) (a_chart 0) (a_grower 0) (a_short 0) (a_row 0) (a_tape 0) (a_least 0) (a_next 0) s_self_9, wd_Gr K a_grammar s_grammar, wd_Gw K a_grower (a_grammar 0) (a_grown 0) (a_joined 0) s_grower_5, wd_Sy K a_grown n_grown s_grown_6, wd_Sy K a_joined n_joined s_joined_7, wd_Sy K a_row n_row s_row, wd_Sy K a_tape n_tape s_tape]) 0 0 rfl rfl rfl (in_Rt _) t_Rt t_Rt_ok n_Rt 8 (by decide) (List.mem_cons_of_mem _ fl_Rt_57) rfl rfl (by decide +kernel) rfl rfl (Nat.le_of_ble_eq_true rfl) d_Rt_grow_34 (by rw [es_self_9]; rfl) ?_
    refine gd_iload_n X d_Rt_grow_37 0 rfl ?_
    refine gd_if_ne X (tgt := 55) d_Rt_grow_38 (by decide) (fun c_10 => ?_) (fun c_10 => ?_)
    · replace h := it_n c_10 h
      refine gd_iload_n X d_Rt_grow_55 0 rfl ?_
      cases h
      exact gd_iret X hr hlk d_Rt_grow_56
    · replace h := it_p c_10 h
      refine gd_aload_n X d_Rt_grow_41 1 rfl ?_
      refine gd_get X (ci := 6) (C := R_Rt) (T := F_Rt) (N := 9) (v := .ref (a_row 0)) 0 0 rfl rfl rfl (in_Rt _) 4 (by decide) (List.mem_cons_of_mem _ fl_Rt_44) rfl rfl d_Rt_grow_42 ?_
      refine gd_aload_n X d_Rt_grow_45 1 rfl ?_
      refine gd_get X (ci := 6) (C := R_Rt) (T := F_Rt) (N := 9) (v := .ref (a_grower 0)) 0 0 rfl rfl rfl (in_Rt _) 2 (by decide) (List.mem_cons_of_mem _ fl_Rt_28) rfl rfl d_Rt_grow_46 ?_
      refine gd_get X (ci := 4) (C := R_Gw) (T := F_Gw) (N := 7) (v := .ref (a_grown 0)) 2 0 rfl rfl rfl (in_Gw _) 2 (by decide) (List.mem_cons_of_mem _ fl_Rt_130) rfl rfl d_Rt_grow_49 ?_
      obtain ⟨s_row_11, hc_12, h⟩ := bd1_e h
      refine gd_cv X (gd_V X (As := [.ref (a_grown 0)]) (rest := []) (c_Sy_copyOf l D K a_row a_grown n_row n_grown N s_row s_grown_6 s_row_11 hc_12) 1 (gi_V ml_Rt_133 u_Sy_copyOf) rfl ⟨rfl, rfl⟩ (by decide +kernel) ⟨by decide, by decide⟩ (ci := 0) rfl rfl rfl rfl rfl rfl (Nat.le_of_ble_eq_true rfl) ⟨Nat.zero_le _, Nat.zero_le _⟩ d_Rt_grow_52) (w2 := [wd_Rt K a_self (a_grammar 0) (a_chart 0) (a_grower 0) (a_short 0) (a_row 0) (a_tape 0) (a_least 0) (a_next 0) s_self_9, wd_Gr K a_grammar s_grammar, wd_Gw K a_grower (a_grammar 0) (a_grown 0) (a_joined 0) s_grower_5, wd_Sy K a_grown n_grown s_grown_6, wd_Sy K a_joined n_joined s_joined_7, wd_Sy K a_row n_row s_row_11, wd_Sy K a_tape n_tape s_tape]) [5, 3] [0, 1, 2, 4, 6] rfl rfl rfl rfl ⟨rfl, rfl⟩ rfl ?_
      refine gd_iload_n X d_Rt_grow_55 0 rfl ?_
      cases h
      exact gd_iret X hr hlk d_Rt_grow_56
  · replace h := it_p c_3 h
    refine gd_iconst X (v := (-1)) d_Rt_grow_11 (by decide) ?_
    cases h
    exact gd_iret X hr hlk d_Rt_grow_12
def m_Rt_grow (N : Nat) (n_grown : Nat) (n_joined : Nat) (n_row : Nat) (n_tape : Nat) (s_self s_grammar s_grower s_grown s_joined s_row s_tape : Nat → Nat → Int32) (v1 : Int32) : Option ((Int32) × (Nat → Nat → Int32) × (Nat → Nat → Int32) × (Nat → Nat → Int32) × (Nat → Nat → Int32) × (Nat → Nat → Int32)) := f_Rt_grow_0 N n_grown n_joined n_row n_tape s_self s_grammar s_grower s_grown s_joined s_row s_tape v1
set_option maxHeartbeats 4000000 in
set_option maxRecDepth 100000 in
theorem c_Rt_grow (l : Launch) (D : va_G) (K : Nat → ClassId) (a_self a_grammar a_chart a_grower a_grown a_joined a_short a_row a_tape a_least a_next : Nat → Nat) (n_grown : Nat) (n_joined : Nat) (n_row : Nat) (n_tape : Nat) (N : Nat) (s_self s_grammar s_grower s_grown s_joined s_row s_tape : Nat → Nat → Int32) (v1 : Int32) (r : Int32) (f_self f_grower f_grown f_joined f_row : Nat → Nat → Int32) (h : m_Rt_grow N n_grown n_joined n_row n_tape s_self s_grammar s_grower s_grown s_joined s_row s_tape v1 = some (r, f_self, f_grower, f_grown, f_joined, f_row)) : SMet l y_Rt_grow w_Rt_grow rm_Rt_grow D classes (tyK K) [.ref (a_self 0), .int v1] (some (.int r)) [wd_Rt K a_self (a_grammar 0) (a_chart 0) (a_grower 0) (a_short 0) (a_row 0) (a_tape 0) (a_least 0) (a_next 0) s_self, wd_Gr K a_grammar s_grammar, wd_Gw K a_grower (a_grammar 0) (a_grown 0) (a_joined 0) s_grower, wd_Sy K a_grown n_grown s_grown, wd_Sy K a_joined n_joined s_joined, wd_Sy K a_row n_row s_row, wd_Sy K a_tape n_tape s_tape] [wd_Rt K a_self (a_grammar 0) (a_chart 0) (a_grower 0) (a_short 0) (a_row 0) (a_tape 0) (a_least 0) (a_next 0) f_self, wd_Gr K a_grammar s_grammar, wd_Gw K a_grower (a_grammar 0) (a_grown 0) (a_joined 0) f_grower, wd_Sy K a_grown n_grown f_grown, wd_Sy K a_joined n_joined f_joined, wd_Sy K a_row n_row f_row, wd_Sy K a_tape n_tape s_tape] := by
  refine sm_of R_Rt (by decide) rfl rfl (Nat.le_of_ble_eq_true rfl) ?_
  intro p e s m below meth c A X hr hlk
  refine gd_loc (lv' := [(0, .ref (a_self 0)), (1, .int v1)]) [0, 1] rfl ?_
  exact t_Rt_grow_0 a_self a_grammar a_chart a_grower a_grown a_joined a_short a_row a_tape a_least a_next n_grown n_joined n_row n_tape X hr hlk N r f_self f_grower f_grown f_joined f_row s_self s_grammar s_grower s_grown s_joined s_row s_tape v1 h
abbrev b_Rt_place : ByteArray := prog_1_method_16_code
def y_Rt_place : MethodName := ⟨R_Rt, "place", "()I"⟩
def w_Rt_place : List Cond := .code y_Rt_place b_Rt_place 1 (some .int) :: TB
theorem k_Rt_place : Cond.code y_Rt_place b_Rt_place 1 (some .int) ∈ TB := tb_of 645 (by decide +kernel) (by decide +kernel)
theorem d_Rt_place_0 : decode b_Rt_place 0 = .ok (.aload_n 0, 1) := by decide +kernel
theorem d_Rt_place_1 : decode b_Rt_place 1 = .ok (.getfield 57, 3) := by decide +kernel
theorem d_Rt_place_4 : decode b_Rt_place 4 = .ok (.ireturn, 1) := by decide +kernel
abbrev rm_Rt_place : Room := { frames := 0, cells := 0, slots := 0, locals := 0 }
def f_Rt_place_0 (s_self : Nat → Nat → Int32) : Option ((Int32)) :=
  some (s_self 0 8)
set_option maxHeartbeats 4000000 in
set_option maxRecDepth 100000 in
theorem t_Rt_place_0 {p : Program} {l : Launch} {e : Env} {s : State} {m : MethodId} {args : Array Value} {below : List Frame} {meth : Method} {c : Code} {A : Nat → Prop} {D : va_G} {K : Nat → ClassId} (a_self a_grammar a_chart a_grower a_short a_row a_tape a_least a_next : Nat → Nat) (X : gx p s m args c b_Rt_place 1 R_Rt w_Rt_place D classes (tyK K) A) (hr : meth.sig.returnType = some .int) (hlk : meth.locks = false) (r : Int32) (s_self : Nat → Nat → Int32) (h : f_Rt_place_0 s_self = some r) : Gd p l e rm_Rt_place s m args below meth c 0 0 (MQ below (sq D classes (tyK K) (some (.int r)) [wd_Rt K a_self (a_grammar 0) (a_chart 0) (a_grower 0) (a_short 0) (a_row 0) (a_tape 0) (a_least 0) (a_next 0) s_self] A) args s 0 0 A) D classes A 1 0 [wd_Rt K a_self (a_grammar 0) (a_chart 0) (a_grower 0) (a_short 0) (a_row 0) (a_tape 0) (a_least 0) (a_next 0) s_self] [(0, .ref (a_self 0))] [] := by
  unfold f_Rt_place_0 at h
  refine gd_aload_n X d_Rt_place_0 0 rfl ?_
  refine gd_get X (ci := 6) (C := R_Rt) (T := F_Rt) (N := 9) (v := .int (s_self 0 8)) 0 0 rfl rfl rfl (in_Rt _) 8 (by decide) (List.mem_cons_of_mem _ fl_Rt_57) rfl rfl d_Rt_place_1 ?_
  cases h
  exact gd_iret X hr hlk d_Rt_place_4
def m_Rt_place (s_self : Nat → Nat → Int32) : Option ((Int32)) := f_Rt_place_0 s_self
set_option maxHeartbeats 4000000 in
set_option maxRecDepth 100000 in
theorem c_Rt_place (l : Launch) (D : va_G) (K : Nat → ClassId) (a_self a_grammar a_chart a_grower a_short a_row a_tape a_least a_next : Nat → Nat) (s_self : Nat → Nat → Int32) (r : Int32) (h : m_Rt_place s_self = some r) : SMet l y_Rt_place w_Rt_place rm_Rt_place D classes (tyK K) [.ref (a_self 0)] (some (.int r)) [wd_Rt K a_self (a_grammar 0) (a_chart 0) (a_grower 0) (a_short 0) (a_row 0) (a_tape 0) (a_least 0) (a_next 0) s_self] [wd_Rt K a_self (a_grammar 0) (a_chart 0) (a_grower 0) (a_short 0) (a_row 0) (a_tape 0) (a_least 0) (a_next 0) s_self] := by
  refine sm_of R_Rt (by decide) rfl rfl (Nat.le_of_ble_eq_true rfl) ?_
  intro p e s m below meth c A X hr hlk
  refine gd_loc (lv' := [(0, .ref (a_self 0))]) [0] rfl ?_
  exact t_Rt_place_0 a_self a_grammar a_chart a_grower a_short a_row a_tape a_least a_next X hr hlk r s_self h
