abbrev b_Md_part : ByteArray := prog_10_method_24_code
def y_Md_part : MethodName := ⟨R_Md, "part", "(I)I"⟩
def w_Md_part : List Cond := .code y_Md_part b_Md_part 3 (some .int) :: TB
theorem k_Md_part : Cond.code y_Md_part b_Md_part 3 (some .int) ∈ TB := tb_of 929 (by decide +kernel) (by decide +kernel)
theorem d_Md_part_0 : decode b_Md_part 0 = .ok (.aload_n 0, 1) := by decide +kernel
theorem d_Md_part_1 : decode b_Md_part 1 = .ok (.getfield 51, 3) := by decide +kernel
theorem d_Md_part_4 : decode b_Md_part 4 = .ok (.iload_n 1, 1) := by decide +kernel
theorem d_Md_part_5 : decode b_Md_part 5 = .ok (.iaload, 1) := by decide +kernel
theorem d_Md_part_6 : decode b_Md_part 6 = .ok (.istore_n 2, 1) := by decide +kernel
theorem d_Md_part_7 : decode b_Md_part 7 = .ok (.aload_n 0, 1) := by decide +kernel
theorem d_Md_part_8 : decode b_Md_part 8 = .ok (.getfield 7, 3) := by decide +kernel
theorem d_Md_part_11 : decode b_Md_part 11 = .ok (.iconst (-1), 1) := by decide +kernel
theorem d_Md_part_12 : decode b_Md_part 12 = .ok (.aload_n 0, 1) := by decide +kernel
theorem d_Md_part_13 : decode b_Md_part 13 = .ok (.getfield 54, 3) := by decide +kernel
theorem d_Md_part_16 : decode b_Md_part 16 = .ok (.iload_n 2, 1) := by decide +kernel
theorem d_Md_part_17 : decode b_Md_part 17 = .ok (.iaload, 1) := by decide +kernel
theorem d_Md_part_18 : decode b_Md_part 18 = .ok (.isub, 1) := by decide +kernel
theorem d_Md_part_19 : decode b_Md_part 19 = .ok (.iaload, 1) := by decide +kernel
theorem d_Md_part_20 : decode b_Md_part 20 = .ok (.aload_n 0, 1) := by decide +kernel
theorem d_Md_part_21 : decode b_Md_part 21 = .ok (.getfield 48, 3) := by decide +kernel
theorem d_Md_part_24 : decode b_Md_part 24 = .ok (.iload_n 2, 1) := by decide +kernel
theorem d_Md_part_25 : decode b_Md_part 25 = .ok (.iaload, 1) := by decide +kernel
theorem d_Md_part_26 : decode b_Md_part 26 = .ok (.aload_n 0, 1) := by decide +kernel
theorem d_Md_part_27 : decode b_Md_part 27 = .ok (.getfield 48, 3) := by decide +kernel
theorem d_Md_part_30 : decode b_Md_part 30 = .ok (.iload_n 2, 1) := by decide +kernel
theorem d_Md_part_31 : decode b_Md_part 31 = .ok (.iaload, 1) := by decide +kernel
theorem d_Md_part_32 : decode b_Md_part 32 = .ok (.aload_n 0, 1) := by decide +kernel
theorem d_Md_part_33 : decode b_Md_part 33 = .ok (.getfield 45, 3) := by decide +kernel
theorem d_Md_part_36 : decode b_Md_part 36 = .ok (.iload_n 2, 1) := by decide +kernel
theorem d_Md_part_37 : decode b_Md_part 37 = .ok (.iaload, 1) := by decide +kernel
theorem d_Md_part_38 : decode b_Md_part 38 = .ok (.iadd, 1) := by decide +kernel
theorem d_Md_part_39 : decode b_Md_part 39 = .ok (.invokestatic 138, 3) := by decide +kernel
theorem d_Md_part_42 : decode b_Md_part 42 = .ok (.ireturn, 1) := by decide +kernel
theorem fl_Md_51 : Cond.fieldLink R_Md 51 "RuleTreesModel" "firsts" "[I" ∈ TB := tb_of 742 (by decide +kernel) (by decide +kernel)
theorem fl_Md_54 : Cond.fieldLink R_Md 54 "RuleTreesModel" "stands" "[I" ∈ TB := tb_of 743 (by decide +kernel) (by decide +kernel)
theorem ml_Md_138 : Cond.methodLink R_Md 138 ⟨"RuleTreesModel", "cellOf", "(III)I"⟩ ∈ TB := tb_of 891 (by decide +kernel) (by decide +kernel)
theorem u_Md_cellOf : Cond.static y_Md_cellOf ∈ TB ∧ Cond.initialized y_Md_cellOf.cls ∈ TB ∧ Cond.code y_Md_cellOf b_Md_cellOf 3 (some .int) ∈ TB := ⟨(tb_of 892 (by decide +kernel) (by decide +kernel)), (tb_of 70 (by decide +kernel) (by decide +kernel)), k_Md_cellOf⟩
abbrev rm_Md_part : Room := { frames := 1, cells := 0, slots := 0, locals := 22 }
def f_Md_part_0 (s_self : Nat → Nat → Int32) (v1 : Int32) : Option ((Int32)) :=
  ck v1 4 <|
  nm (s_self 13 (Int32.toNatClampNeg v1)) fun v2_2 =>
  ck v2_2 4 <|
  ck ((-1) - (s_self 14 (Int32.toNatClampNeg v2_2))) 20 <|
  ck v2_2 4 <|
  ck v2_2 4 <|
  ck v2_2 4 <|
  bd1 (m_Md_cellOf (s_self 1 (Int32.toNatClampNeg ((-1) - (s_self 14 (Int32.toNatClampNeg v2_2))))) (s_self 12 (Int32.toNatClampNeg v2_2)) ((s_self 12 (Int32.toNatClampNeg v2_2)) + (s_self 11 (Int32.toNatClampNeg v2_2)))) fun r_8 =>
  some (r_8)
set_option maxHeartbeats 4000000 in
set_option maxRecDepth 100000 in
theorem t_Md_part_0 {p : Program} {l : Launch} {e : Env} {s : State} {m : MethodId} {args : Array Value} {below : List Frame} {meth : Method} {c : Code} {A : Nat → Prop} {D : va_G} {K : Nat → ClassId} (a_self a_least : Nat → Nat) (X : gx p s m args c b_Md_part 3 R_Md w_Md_part D classes (tyK K) A) (hr : meth.sig.returnType = some .int) (hlk : meth.locks = false) (r : Int32) (s_self : Nat → Nat → Int32) (v1 : Int32) (h : f_Md_part_0 s_self v1 = some r) : Gd p l e rm_Md_part s m args below meth c 0 0 (MQ below (sq D classes (tyK K) (some (.int r)) [wd_Md K a_self (a_least 0) s_self] A) args s 0 0 A) D classes A 3 0 [wd_Md K a_self (a_least 0) s_self] [(0, .ref (a_self 0)), (1, .int v1)] [] := by
  unfold f_Md_part_0 at h
  refine gd_aload_n X d_Md_part_0 0 rfl ?_
  refine gd_get X (ci := 7) (C := R_Md) (T := F_Md) (N := 36) (v := .ref (a_self 13)) 0 0 rfl rfl rfl (in_Md _) 22 (by decide) (List.mem_cons_of_mem _ fl_Md_51) rfl rfl d_Md_part_1 ?_
  refine gd_iload_n X d_Md_part_4 1 rfl ?_
  obtain ⟨hi_1, h⟩ := ck_e h
  refine gd_iald X 0 13 0 rfl rfl rfl hi_1 d_Md_part_5 ?_
  obtain ⟨v2_2, ev2_2, h⟩ := nm_e' h
  refine gd_topi ev2_2 ?_
  refine gd_istore_n X (lv' := [(2, .int v2_2), (0, .ref (a_self 0)), (1, .int v1)]) d_Md_part_6 rfl (by decide) rfl ?_
  refine gd_aload_n X d_Md_part_7 1 rfl ?_
  refine gd_get X (ci := 7) (C := R_Md) (T := F_Md) (N := 36) (v := .ref (a_self 1)) 0 0 rfl rfl rfl (in_Md _) 3 (by decide) (List.mem_cons_of_mem _ fl_Md_7) rfl rfl d_Md_part_8 ?_
  refine gd_iconst X (v := (-1)) d_Md_part_11 (by decide) ?_
  refine gd_aload_n X d_Md_part_12 1 rfl ?_
  refine gd_get X (ci := 7) (C := R_Md) (T := F_Md) (N := 36) (v := .ref (a_self 14)) 0 0 rfl rfl rfl (in_Md _) 23 (by decide) (List.mem_cons_of_mem _ fl_Md_54) rfl rfl d_Md_part_13 ?_
  refine gd_iload_n X d_Md_part_16 0 rfl ?_
  obtain ⟨hi_3, h⟩ := ck_e h
  refine gd_iald X 0 14 0 rfl rfl rfl hi_3 d_Md_part_17 ?_
  refine gd_isub X d_Md_part_18 ?_
  obtain ⟨hi_4, h⟩ := ck_e h
  refine gd_iald X 0 1 0 rfl rfl rfl hi_4 d_Md_part_19 ?_
  refine gd_aload_n X d_Md_part_20 1 rfl ?_
  refine gd_get X (ci := 7) (C := R_Md) (T := F_Md) (N := 36) (v := .ref (a_self 12)) 0 0 rfl rfl rfl (in_Md _) 21 (by decide) (List.mem_cons_of_mem _ fl_Md_48) rfl rfl d_Md_part_21 ?_
  refine gd_iload_n X d_Md_part_24 0 rfl ?_
  obtain ⟨hi_5, h⟩ := ck_e h
  refine gd_iald X 0 12 0 rfl rfl rfl hi_5 d_Md_part_25 ?_
  refine gd_aload_n X d_Md_part_26 1 rfl ?_
  refine gd_get X (ci := 7) (C := R_Md) (T := F_Md) (N := 36) (v := .ref (a_self 12)) 0 0 rfl rfl rfl (in_Md _) 21 (by decide) (List.mem_cons_of_mem _ fl_Md_48) rfl rfl d_Md_part_27 ?_
  refine gd_iload_n X d_Md_part_30 0 rfl ?_
  obtain ⟨hi_6, h⟩ := ck_e h
  refine gd_iald X 0 12 0 rfl rfl rfl hi_6 d_Md_part_31 ?_
  refine gd_aload_n X d_Md_part_32 1 rfl ?_
  refine gd_get X (ci := 7) (C := R_Md) (T := F_Md) (N := 36) (v := .ref (a_self 11)) 0 0 rfl rfl rfl (in_Md _) 20 (by decide) (List.mem_cons_of_mem _ fl_Md_45) rfl rfl d_Md_part_33 ?_
  refine gd_iload_n X d_Md_part_36 0 rfl ?_
  obtain ⟨hi_7, h⟩ := ck_e h
  refine gd_iald X 0 11 0 rfl rfl rfl hi_7 d_Md_part_37 ?_
  refine gd_iadd X d_Md_part_38 ?_
  obtain ⟨r_8, hc_9, h⟩ := bd1_e h
  refine gd_pI X (gd_Sc X (As := [.int (s_self 1 (Int32.toNatClampNeg ((-1) - (s_self 14 (Int32.toNatClampNeg v2_2))))), .int (s_self 12 (Int32.toNatClampNeg v2_2)), .int ((s_self 12 (Int32.toNatClampNeg v2_2)) + (s_self 11 (Int32.toNatClampNeg v2_2)))]) (rest := []) (c_Md_cellOf l D K (s_self 1 (Int32.toNatClampNeg ((-1) - (s_self 14 (Int32.toNatClampNeg v2_2))))) (s_self 12 (Int32.toNatClampNeg v2_2)) ((s_self 12 (Int32.toNatClampNeg v2_2)) + (s_self 11 (Int32.toNatClampNeg v2_2))) r_8 hc_9) 3 (gi_S ml_Md_138 u_Md_cellOf) rfl ⟨rfl, rfl⟩ (by decide +kernel) ⟨by decide, by decide⟩ rfl rfl (Nat.le_of_ble_eq_true rfl) ⟨Nat.zero_le _, Nat.zero_le _⟩ d_Md_part_39) [] rfl rfl ?_
  cases h
  exact gd_iret X hr hlk d_Md_part_42
def m_Md_part (s_self : Nat → Nat → Int32) (v1 : Int32) : Option ((Int32)) := f_Md_part_0 s_self v1
set_option maxHeartbeats 4000000 in
set_option maxRecDepth 100000 in
theorem c_Md_part (l : Launch) (D : va_G) (K : Nat → ClassId) (a_self a_least : Nat → Nat) (s_self : Nat → Nat → Int32) (v1 : Int32) (r : Int32) (h : m_Md_part s_self v1 = some r) : SMet l y_Md_part w_Md_part rm_Md_part D classes (tyK K) [.ref (a_self 0), .int v1] (some (.int r)) [wd_Md K a_self (a_least 0) s_self] [wd_Md K a_self (a_least 0) s_self] := by
  refine sm_of R_Md (by decide) rfl rfl (Nat.le_of_ble_eq_true rfl) ?_
  intro p e s m below meth c A X hr hlk
  refine gd_loc (lv' := [(0, .ref (a_self 0)), (1, .int v1)]) [0, 1] rfl ?_
  exact t_Md_part_0 a_self a_least X hr hlk r s_self v1 h
