abbrev b_Wy_times : ByteArray := prog_8_method_3_code
def y_Wy_times : MethodName := ⟨R_Wy, "times", "(II)I"⟩
def w_Wy_times : List Cond := .code y_Wy_times b_Wy_times 2 (some .int) :: TB
theorem k_Wy_times : Cond.code y_Wy_times b_Wy_times 2 (some .int) ∈ TB := tb_of 495 (by decide +kernel) (by decide +kernel)
theorem d_Wy_times_0 : decode b_Wy_times 0 = .ok (.iload_n 0, 1) := by decide +kernel
theorem d_Wy_times_1 : decode b_Wy_times 1 = .ok (.ifCond .eq 7, 3) := by decide +kernel
theorem d_Wy_times_4 : decode b_Wy_times 4 = .ok (.iload_n 1, 1) := by decide +kernel
theorem d_Wy_times_5 : decode b_Wy_times 5 = .ok (.ifCond .ne 5, 3) := by decide +kernel
theorem d_Wy_times_8 : decode b_Wy_times 8 = .ok (.iconst 0, 1) := by decide +kernel
theorem d_Wy_times_9 : decode b_Wy_times 9 = .ok (.ireturn, 1) := by decide +kernel
theorem d_Wy_times_10 : decode b_Wy_times 10 = .ok (.iload_n 0, 1) := by decide +kernel
theorem d_Wy_times_11 : decode b_Wy_times 11 = .ok (.ldc 11, 2) := by decide +kernel
theorem d_Wy_times_13 : decode b_Wy_times 13 = .ok (.if_icmp .eq 9, 3) := by decide +kernel
theorem d_Wy_times_16 : decode b_Wy_times 16 = .ok (.iload_n 1, 1) := by decide +kernel
theorem d_Wy_times_17 : decode b_Wy_times 17 = .ok (.ldc 11, 2) := by decide +kernel
theorem d_Wy_times_19 : decode b_Wy_times 19 = .ok (.if_icmp .ne 6, 3) := by decide +kernel
theorem d_Wy_times_22 : decode b_Wy_times 22 = .ok (.ldc 11, 2) := by decide +kernel
theorem d_Wy_times_24 : decode b_Wy_times 24 = .ok (.ireturn, 1) := by decide +kernel
theorem d_Wy_times_25 : decode b_Wy_times 25 = .ok (.iload_n 0, 1) := by decide +kernel
theorem d_Wy_times_26 : decode b_Wy_times 26 = .ok (.i2l, 1) := by decide +kernel
theorem d_Wy_times_27 : decode b_Wy_times 27 = .ok (.iload_n 1, 1) := by decide +kernel
theorem d_Wy_times_28 : decode b_Wy_times 28 = .ok (.i2l, 1) := by decide +kernel
theorem d_Wy_times_29 : decode b_Wy_times 29 = .ok (.lmul, 1) := by decide +kernel
theorem d_Wy_times_30 : decode b_Wy_times 30 = .ok (.ldc2_w 19, 3) := by decide +kernel
theorem d_Wy_times_33 : decode b_Wy_times 33 = .ok (.invokestatic 21, 3) := by decide +kernel
theorem d_Wy_times_36 : decode b_Wy_times 36 = .ok (.l2i, 1) := by decide +kernel
theorem d_Wy_times_37 : decode b_Wy_times 37 = .ok (.ireturn, 1) := by decide +kernel
theorem kc_Wy_19 : Cond.constantLong R_Wy 19 1000001 ∈ TB := tb_of 497 (by decide +kernel) (by decide +kernel)
theorem ml_Wy_21 : Cond.methodLink R_Wy 21 ⟨"java/lang/Math", "min", "(JJ)J"⟩ ∈ TB := tb_of 498 (by decide +kernel) (by decide +kernel)
theorem mw_minl_1 : Cond.static Lib.MathLoose.min_long.x ∈ TB := tb_of 499 (by decide +kernel) (by decide +kernel)
theorem mw_minl_2 : Cond.initialized "java/lang/Math" ∈ TB := tb_of 68 (by decide +kernel) (by decide +kernel)
theorem mw_minl_3 : Cond.code Lib.MathLoose.min_long.x Lib.MathLoose.min_long.code 4 (some .long) ∈ TB := tb_of 500 (by decide +kernel) (by decide +kernel)
abbrev rm_Wy_times : Room := { frames := 1, cells := 0, slots := 0, locals := 23 }
def f_Wy_times_0 (v0 v1 : Int32) : Option ((Int32)) :=
  if v0 = 0 then
    some (0)
  else
    if v1 = 0 then
      some (0)
    else
      if v0 = 1000002 then
        some (1000002)
      else
        if v1 = 1000002 then
          some (1000002)
        else
          nm (if 1000001 < ((Int32.toInt64 v0) * (Int32.toInt64 v1)) then 1000001 else ((Int32.toInt64 v0) * (Int32.toInt64 v1))) fun v_5 =>
          some (Int64.toInt32 v_5)
set_option maxHeartbeats 4000000 in
set_option maxRecDepth 100000 in
theorem t_Wy_times_0 {p : Program} {l : Launch} {e : Env} {s : State} {m : MethodId} {args : Array Value} {below : List Frame} {meth : Method} {c : Code} {A : Nat → Prop} {D : va_G} {K : Nat → ClassId} (X : gx p s m args c b_Wy_times 2 R_Wy w_Wy_times D classes (tyK K) A) (hr : meth.sig.returnType = some .int) (hlk : meth.locks = false) (r : Int32) (v0 v1 : Int32) (h : f_Wy_times_0 v0 v1 = some r) : Gd p l e rm_Wy_times s m args below meth c 0 0 (MQ below (sq D classes (tyK K) (some (.int r)) ([] : List va_W) A) args s 0 0 A) D classes A 2 0 ([] : List va_W) [(0, .int v0), (1, .int v1)] [] := by
  unfold f_Wy_times_0 at h
  refine gd_iload_n X d_Wy_times_0 0 rfl ?_
  refine gd_if_eq X (tgt := 8) d_Wy_times_1 (by decide) (fun c_1 => ?_) (fun c_1 => ?_)
  · replace h := it_p c_1 h
    refine gd_iconst X (v := 0) d_Wy_times_8 (by decide) ?_
    cases h
    exact gd_iret X hr hlk d_Wy_times_9
  · replace h := it_n c_1 h
    refine gd_iload_n X d_Wy_times_4 1 rfl ?_
    refine gd_if_ne X (tgt := 10) d_Wy_times_5 (by decide) (fun c_2 => ?_) (fun c_2 => ?_)
    · replace h := it_n c_2 h
      refine gd_iload_n X d_Wy_times_10 0 rfl ?_
      refine gd_ldc X (v := 1000002) (List.mem_cons_of_mem _ kc_Wy_11) d_Wy_times_11 ?_
      refine gd_icmp_eq X (tgt := 22) d_Wy_times_13 (by decide) (fun c_3 => ?_) (fun c_3 => ?_)
      · replace h := it_p c_3 h
        refine gd_ldc X (v := 1000002) (List.mem_cons_of_mem _ kc_Wy_11) d_Wy_times_22 ?_
        cases h
        exact gd_iret X hr hlk d_Wy_times_24
      · replace h := it_n c_3 h
        refine gd_iload_n X d_Wy_times_16 1 rfl ?_
        refine gd_ldc X (v := 1000002) (List.mem_cons_of_mem _ kc_Wy_11) d_Wy_times_17 ?_
        refine gd_icmp_ne X (tgt := 25) d_Wy_times_19 (by decide) (fun c_4 => ?_) (fun c_4 => ?_)
        · replace h := it_n c_4 h
          refine gd_iload_n X d_Wy_times_25 0 rfl ?_
          refine gd_i2l X d_Wy_times_26 ?_
          refine gd_iload_n X d_Wy_times_27 1 rfl ?_
          refine gd_i2l X d_Wy_times_28 ?_
          refine gd_lmul X d_Wy_times_29 ?_
          refine gd_ldc2 X (v := 1000001) (List.mem_cons_of_mem _ kc_Wy_19) d_Wy_times_30 ?_
          obtain ⟨v_5, ev_5, h⟩ := nm_e' h
          refine gd_mminl X (List.mem_cons_of_mem _ ml_Wy_21) (List.mem_cons_of_mem _ mw_minl_1) (List.mem_cons_of_mem _ mw_minl_2) (List.mem_cons_of_mem _ mw_minl_3) (Nat.le_of_ble_eq_true rfl) (Nat.le_of_ble_eq_true rfl) ⟨Nat.zero_le _, Nat.zero_le _⟩ d_Wy_times_33 ?_
          refine gd_topl ev_5 ?_
          refine gd_l2i X d_Wy_times_36 ?_
          cases h
          exact gd_iret X hr hlk d_Wy_times_37
        · replace h := it_p c_4 h
          refine gd_ldc X (v := 1000002) (List.mem_cons_of_mem _ kc_Wy_11) d_Wy_times_22 ?_
          cases h
          exact gd_iret X hr hlk d_Wy_times_24
    · replace h := it_p c_2 h
      refine gd_iconst X (v := 0) d_Wy_times_8 (by decide) ?_
      cases h
      exact gd_iret X hr hlk d_Wy_times_9
def m_Wy_times (v0 v1 : Int32) : Option ((Int32)) := f_Wy_times_0 v0 v1
set_option maxHeartbeats 4000000 in
set_option maxRecDepth 100000 in
theorem c_Wy_times (l : Launch) (D : va_G) (K : Nat → ClassId) (v0 v1 : Int32) (r : Int32) (h : m_Wy_times v0 v1 = some r) : SMet l y_Wy_times w_Wy_times rm_Wy_times D classes (tyK K) [.int v0, .int v1] (some (.int r)) ([] : List va_W) ([] : List va_W) := by
  refine sm_of R_Wy (by decide) rfl rfl (Nat.le_of_ble_eq_true rfl) ?_
  intro p e s m below meth c A X hr hlk
  refine gd_loc (lv' := [(0, .int v0), (1, .int v1)]) [0, 1] rfl ?_
  exact t_Wy_times_0 X hr hlk r v0 v1 h
abbrev b_Wy_kindOf : ByteArray := prog_8_method_4_code
def y_Wy_kindOf : MethodName := ⟨R_Wy, "kindOf", "(I)I"⟩
def w_Wy_kindOf : List Cond := .code y_Wy_kindOf b_Wy_kindOf 1 (some .int) :: TB
theorem k_Wy_kindOf : Cond.code y_Wy_kindOf b_Wy_kindOf 1 (some .int) ∈ TB := tb_of 585 (by decide +kernel) (by decide +kernel)
theorem d_Wy_kindOf_0 : decode b_Wy_kindOf 0 = .ok (.iload_n 0, 1) := by decide +kernel
theorem d_Wy_kindOf_1 : decode b_Wy_kindOf 1 = .ok (.ldc 11, 2) := by decide +kernel
theorem d_Wy_kindOf_3 : decode b_Wy_kindOf 3 = .ok (.if_icmp .ne 5, 3) := by decide +kernel
theorem d_Wy_kindOf_6 : decode b_Wy_kindOf 6 = .ok (.iconst 3, 1) := by decide +kernel
theorem d_Wy_kindOf_7 : decode b_Wy_kindOf 7 = .ok (.ireturn, 1) := by decide +kernel
theorem d_Wy_kindOf_8 : decode b_Wy_kindOf 8 = .ok (.iload_n 0, 1) := by decide +kernel
theorem d_Wy_kindOf_9 : decode b_Wy_kindOf 9 = .ok (.iconst 2, 1) := by decide +kernel
theorem d_Wy_kindOf_10 : decode b_Wy_kindOf 10 = .ok (.invokestatic 13, 3) := by decide +kernel
theorem d_Wy_kindOf_13 : decode b_Wy_kindOf 13 = .ok (.ireturn, 1) := by decide +kernel
abbrev rm_Wy_kindOf : Room := { frames := 1, cells := 0, slots := 0, locals := 21 }
def f_Wy_kindOf_0 (v0 : Int32) : Option ((Int32)) :=
  if v0 = 1000002 then
    some (3)
  else
    nm (if 2 < v0 then 2 else v0) fun v_2 =>
    some (v_2)
set_option maxHeartbeats 4000000 in
set_option maxRecDepth 100000 in
theorem t_Wy_kindOf_0 {p : Program} {l : Launch} {e : Env} {s : State} {m : MethodId} {args : Array Value} {below : List Frame} {meth : Method} {c : Code} {A : Nat → Prop} {D : va_G} {K : Nat → ClassId} (X : gx p s m args c b_Wy_kindOf 1 R_Wy w_Wy_kindOf D classes (tyK K) A) (hr : meth.sig.returnType = some .int) (hlk : meth.locks = false) (r : Int32) (v0 : Int32) (h : f_Wy_kindOf_0 v0 = some r) : Gd p l e rm_Wy_kindOf s m args below meth c 0 0 (MQ below (sq D classes (tyK K) (some (.int r)) ([] : List va_W) A) args s 0 0 A) D classes A 1 0 ([] : List va_W) [(0, .int v0)] [] := by
  unfold f_Wy_kindOf_0 at h
  refine gd_iload_n X d_Wy_kindOf_0 0 rfl ?_
  refine gd_ldc X (v := 1000002) (List.mem_cons_of_mem _ kc_Wy_11) d_Wy_kindOf_1 ?_
  refine gd_icmp_ne X (tgt := 8) d_Wy_kindOf_3 (by decide) (fun c_1 => ?_) (fun c_1 => ?_)
  · replace h := it_n c_1 h
    refine gd_iload_n X d_Wy_kindOf_8 0 rfl ?_
    refine gd_iconst X (v := 2) d_Wy_kindOf_9 (by decide) ?_
    obtain ⟨v_2, ev_2, h⟩ := nm_e' h
    refine gd_mmin X (List.mem_cons_of_mem _ ml_Wy_13) (List.mem_cons_of_mem _ mw_min_1) (List.mem_cons_of_mem _ mw_min_2) (List.mem_cons_of_mem _ mw_min_3) (Nat.le_of_ble_eq_true rfl) (Nat.le_of_ble_eq_true rfl) ⟨Nat.zero_le _, Nat.zero_le _⟩ d_Wy_kindOf_10 ?_
    refine gd_topi ev_2 ?_
    cases h
    exact gd_iret X hr hlk d_Wy_kindOf_13
  · replace h := it_p c_1 h
    refine gd_iconst X (v := 3) d_Wy_kindOf_6 (by decide) ?_
    cases h
    exact gd_iret X hr hlk d_Wy_kindOf_7
def m_Wy_kindOf (v0 : Int32) : Option ((Int32)) := f_Wy_kindOf_0 v0
set_option maxHeartbeats 4000000 in
set_option maxRecDepth 100000 in
theorem c_Wy_kindOf (l : Launch) (D : va_G) (K : Nat → ClassId) (v0 : Int32) (r : Int32) (h : m_Wy_kindOf v0 = some r) : SMet l y_Wy_kindOf w_Wy_kindOf rm_Wy_kindOf D classes (tyK K) [.int v0] (some (.int r)) ([] : List va_W) ([] : List va_W) := by
  refine sm_of R_Wy (by decide) rfl rfl (Nat.le_of_ble_eq_true rfl) ?_
  intro p e s m below meth c A X hr hlk
  refine gd_loc (lv' := [(0, .int v0)]) [0] rfl ?_
  exact t_Wy_kindOf_0 X hr hlk r v0 h
abbrev b_Tt_treeOf : ByteArray := prog_7_method_2_code
def y_Tt_treeOf : MethodName := ⟨R_Tt, "treeOf", "(II)I"⟩
def w_Tt_treeOf : List Cond := .code y_Tt_treeOf b_Tt_treeOf 2 (some .int) :: TB
theorem k_Tt_treeOf : Cond.code y_Tt_treeOf b_Tt_treeOf 2 (some .int) ∈ TB := tb_of 435 (by decide +kernel) (by decide +kernel)
theorem d_Tt_treeOf_0 : decode b_Tt_treeOf 0 = .ok (.iconst 2, 1) := by decide +kernel
theorem d_Tt_treeOf_1 : decode b_Tt_treeOf 1 = .ok (.iload_n 0, 1) := by decide +kernel
theorem d_Tt_treeOf_2 : decode b_Tt_treeOf 2 = .ok (.imul, 1) := by decide +kernel
theorem d_Tt_treeOf_3 : decode b_Tt_treeOf 3 = .ok (.iload_n 1, 1) := by decide +kernel
theorem d_Tt_treeOf_4 : decode b_Tt_treeOf 4 = .ok (.iadd, 1) := by decide +kernel
theorem d_Tt_treeOf_5 : decode b_Tt_treeOf 5 = .ok (.ireturn, 1) := by decide +kernel
abbrev rm_Tt_treeOf : Room := { frames := 0, cells := 0, slots := 0, locals := 0 }
def f_Tt_treeOf_0 (v0 v1 : Int32) : Option ((Int32)) :=
  some ((2 * v0) + v1)
set_option maxHeartbeats 4000000 in
set_option maxRecDepth 100000 in
theorem t_Tt_treeOf_0 {p : Program} {l : Launch} {e : Env} {s : State} {m : MethodId} {args : Array Value} {below : List Frame} {meth : Method} {c : Code} {A : Nat → Prop} {D : va_G} {K : Nat → ClassId} (X : gx p s m args c b_Tt_treeOf 2 R_Tt w_Tt_treeOf D classes (tyK K) A) (hr : meth.sig.returnType = some .int) (hlk : meth.locks = false) (r : Int32) (v0 v1 : Int32) (h : f_Tt_treeOf_0 v0 v1 = some r) : Gd p l e rm_Tt_treeOf s m args below meth c 0 0 (MQ below (sq D classes (tyK K) (some (.int r)) ([] : List va_W) A) args s 0 0 A) D classes A 2 0 ([] : List va_W) [(0, .int v0), (1, .int v1)] [] := by
  unfold f_Tt_treeOf_0 at h
  refine gd_iconst X (v := 2) d_Tt_treeOf_0 (by decide) ?_
  refine gd_iload_n X d_Tt_treeOf_1 0 rfl ?_
  refine gd_imul X d_Tt_treeOf_2 ?_
  refine gd_iload_n X d_Tt_treeOf_3 1 rfl ?_
  refine gd_iadd X d_Tt_treeOf_4 ?_
  cases h
  exact gd_iret X hr hlk d_Tt_treeOf_5
def m_Tt_treeOf (v0 v1 : Int32) : Option ((Int32)) := f_Tt_treeOf_0 v0 v1
set_option maxHeartbeats 4000000 in
set_option maxRecDepth 100000 in
theorem c_Tt_treeOf (l : Launch) (D : va_G) (K : Nat → ClassId) (v0 v1 : Int32) (r : Int32) (h : m_Tt_treeOf v0 v1 = some r) : SMet l y_Tt_treeOf w_Tt_treeOf rm_Tt_treeOf D classes (tyK K) [.int v0, .int v1] (some (.int r)) ([] : List va_W) ([] : List va_W) := by
  refine sm_of R_Tt (by decide) rfl rfl (Nat.le_of_ble_eq_true rfl) ?_
  intro p e s m below meth c A X hr hlk
  refine gd_loc (lv' := [(0, .int v0), (1, .int v1)]) [0, 1] rfl ?_
  exact t_Tt_treeOf_0 X hr hlk r v0 v1 h
abbrev b_Tt_sizeAt : ByteArray := prog_7_method_3_code
def y_Tt_sizeAt : MethodName := ⟨R_Tt, "sizeAt", "(I)I"⟩
def w_Tt_sizeAt : List Cond := .code y_Tt_sizeAt b_Tt_sizeAt 2 (some .int) :: TB
theorem k_Tt_sizeAt : Cond.code y_Tt_sizeAt b_Tt_sizeAt 2 (some .int) ∈ TB := tb_of 462 (by decide +kernel) (by decide +kernel)
theorem d_Tt_sizeAt_0 : decode b_Tt_sizeAt 0 = .ok (.iload_n 1, 1) := by decide +kernel
theorem d_Tt_sizeAt_1 : decode b_Tt_sizeAt 1 = .ok (.ifCond .lt 19, 3) := by decide +kernel
theorem d_Tt_sizeAt_4 : decode b_Tt_sizeAt 4 = .ok (.iload_n 1, 1) := by decide +kernel
theorem d_Tt_sizeAt_5 : decode b_Tt_sizeAt 5 = .ok (.sipush 936, 3) := by decide +kernel
theorem d_Tt_sizeAt_8 : decode b_Tt_sizeAt 8 = .ok (.if_icmp .gt 12, 3) := by decide +kernel
theorem d_Tt_sizeAt_11 : decode b_Tt_sizeAt 11 = .ok (.aload_n 0, 1) := by decide +kernel
theorem d_Tt_sizeAt_12 : decode b_Tt_sizeAt 12 = .ok (.getfield 11, 3) := by decide +kernel
theorem d_Tt_sizeAt_15 : decode b_Tt_sizeAt 15 = .ok (.iload_n 1, 1) := by decide +kernel
theorem d_Tt_sizeAt_16 : decode b_Tt_sizeAt 16 = .ok (.iaload, 1) := by decide +kernel
theorem d_Tt_sizeAt_17 : decode b_Tt_sizeAt 17 = .ok (.goto 4, 3) := by decide +kernel
theorem d_Tt_sizeAt_20 : decode b_Tt_sizeAt 20 = .ok (.iconst 0, 1) := by decide +kernel
theorem d_Tt_sizeAt_21 : decode b_Tt_sizeAt 21 = .ok (.ireturn, 1) := by decide +kernel
theorem fl_Tt_11 : Cond.fieldLink R_Tt 11 "RuleTrees$TreeTable" "sizes" "[I" ∈ TB := tb_of 141 (by decide +kernel) (by decide +kernel)
abbrev rm_Tt_sizeAt : Room := { frames := 0, cells := 0, slots := 0, locals := 0 }
def f_Tt_sizeAt_0 (s_self : Nat → Nat → Int32) (v1 : Int32) : Option ((Int32)) :=
  if v1 < 0 then
    some (0)
  else
    if 936 < v1 then
      some (0)
    else
      ck v1 937 <|
      some (s_self 1 (Int32.toNatClampNeg v1))
set_option maxHeartbeats 4000000 in
set_option maxRecDepth 100000 in
theorem t_Tt_sizeAt_0 {p : Program} {l : Launch} {e : Env} {s : State} {m : MethodId} {args : Array Value} {below : List Frame} {meth : Method} {c : Code} {A : Nat → Prop} {D : va_G} {K : Nat → ClassId} (a_self : Nat → Nat) (X : gx p s m args c b_Tt_sizeAt 2 R_Tt w_Tt_sizeAt D classes (tyK K) A) (hr : meth.sig.returnType = some .int) (hlk : meth.locks = false) (r : Int32) (s_self : Nat → Nat → Int32) (v1 : Int32) (h : f_Tt_sizeAt_0 s_self v1 = some r) : Gd p l e rm_Tt_sizeAt s m args below meth c 0 0 (MQ below (sq D classes (tyK K) (some (.int r)) [wd_Tt K a_self s_self] A) args s 0 0 A) D classes A 2 0 [wd_Tt K a_self s_self] [(0, .ref (a_self 0)), (1, .int v1)] [] := by
  unfold f_Tt_sizeAt_0 at h
  refine gd_iload_n X d_Tt_sizeAt_0 1 rfl ?_
  refine gd_if_lt X (tgt := 20) d_Tt_sizeAt_1 (by decide) (fun c_1 => ?_) (fun c_1 => ?_)
  · replace h := it_p c_1 h
    refine gd_iconst X (v := 0) d_Tt_sizeAt_20 (by decide) ?_
    cases h
    exact gd_iret X hr hlk d_Tt_sizeAt_21
  · replace h := it_n c_1 h
    refine gd_iload_n X d_Tt_sizeAt_4 1 rfl ?_
    refine gd_sipush X (v := 936) d_Tt_sizeAt_5 (by decide) ?_
    refine gd_icmp_gt X (tgt := 20) d_Tt_sizeAt_8 (by decide) (fun c_2 => ?_) (fun c_2 => ?_)
    · replace h := it_p c_2 h
      refine gd_iconst X (v := 0) d_Tt_sizeAt_20 (by decide) ?_
      cases h
      exact gd_iret X hr hlk d_Tt_sizeAt_21
    · replace h := it_n c_2 h
      refine gd_aload_n X d_Tt_sizeAt_11 0 rfl ?_
      refine gd_get X (ci := 2) (C := R_Tt) (T := F_Tt) (N := 6) (v := .ref (a_self 1)) 0 0 rfl rfl rfl (in_Tt _) 0 (by decide) (List.mem_cons_of_mem _ fl_Tt_11) rfl rfl d_Tt_sizeAt_12 ?_
      refine gd_iload_n X d_Tt_sizeAt_15 1 rfl ?_
      obtain ⟨hi_3, h⟩ := ck_e h
      refine gd_iald X 0 1 0 rfl rfl rfl hi_3 d_Tt_sizeAt_16 ?_
      refine gd_goto X (tgt := 21) d_Tt_sizeAt_17 (by decide) ?_
      cases h
      exact gd_iret X hr hlk d_Tt_sizeAt_21
def m_Tt_sizeAt (s_self : Nat → Nat → Int32) (v1 : Int32) : Option ((Int32)) := f_Tt_sizeAt_0 s_self v1
set_option maxHeartbeats 4000000 in
set_option maxRecDepth 100000 in
theorem c_Tt_sizeAt (l : Launch) (D : va_G) (K : Nat → ClassId) (a_self : Nat → Nat) (s_self : Nat → Nat → Int32) (v1 : Int32) (r : Int32) (h : m_Tt_sizeAt s_self v1 = some r) : SMet l y_Tt_sizeAt w_Tt_sizeAt rm_Tt_sizeAt D classes (tyK K) [.ref (a_self 0), .int v1] (some (.int r)) [wd_Tt K a_self s_self] [wd_Tt K a_self s_self] := by
  refine sm_of R_Tt (by decide) rfl rfl (Nat.le_of_ble_eq_true rfl) ?_
  intro p e s m below meth c A X hr hlk
  refine gd_loc (lv' := [(0, .ref (a_self 0)), (1, .int v1)]) [0, 1] rfl ?_
  exact t_Tt_sizeAt_0 a_self X hr hlk r s_self v1 h
abbrev b_Tt_isCell : ByteArray := prog_7_method_9_code
def y_Tt_isCell : MethodName := ⟨R_Tt, "isCell", "(I)Z"⟩
def w_Tt_isCell : List Cond := .code y_Tt_isCell b_Tt_isCell 1 (some .boolean) :: TB
theorem k_Tt_isCell : Cond.code y_Tt_isCell b_Tt_isCell 1 (some .boolean) ∈ TB := tb_of 432 (by decide +kernel) (by decide +kernel)
theorem d_Tt_isCell_0 : decode b_Tt_isCell 0 = .ok (.iload_n 0, 1) := by decide +kernel
theorem d_Tt_isCell_1 : decode b_Tt_isCell 1 = .ok (.ifCond .lt 14, 3) := by decide +kernel
theorem d_Tt_isCell_4 : decode b_Tt_isCell 4 = .ok (.iload_n 0, 1) := by decide +kernel
theorem d_Tt_isCell_5 : decode b_Tt_isCell 5 = .ok (.sipush 468, 3) := by decide +kernel
theorem d_Tt_isCell_8 : decode b_Tt_isCell 8 = .ok (.if_icmp .ge 7, 3) := by decide +kernel
theorem d_Tt_isCell_11 : decode b_Tt_isCell 11 = .ok (.iconst 1, 1) := by decide +kernel
theorem d_Tt_isCell_12 : decode b_Tt_isCell 12 = .ok (.goto 4, 3) := by decide +kernel
theorem d_Tt_isCell_15 : decode b_Tt_isCell 15 = .ok (.iconst 0, 1) := by decide +kernel
theorem d_Tt_isCell_16 : decode b_Tt_isCell 16 = .ok (.ireturn, 1) := by decide +kernel
abbrev rm_Tt_isCell : Room := { frames := 0, cells := 0, slots := 0, locals := 0 }
def f_Tt_isCell_0 (v0 : Int32) : Option ((Int32)) :=
  if v0 < 0 then
    some (0)
  else
    if 468 ≤ v0 then
      some (0)
    else
      some (1)
set_option maxHeartbeats 4000000 in
set_option maxRecDepth 100000 in
theorem t_Tt_isCell_0 {p : Program} {l : Launch} {e : Env} {s : State} {m : MethodId} {args : Array Value} {below : List Frame} {meth : Method} {c : Code} {A : Nat → Prop} {D : va_G} {K : Nat → ClassId} (X : gx p s m args c b_Tt_isCell 1 R_Tt w_Tt_isCell D classes (tyK K) A) (hr : meth.sig.returnType = some .boolean) (hlk : meth.locks = false) (r : Int32) (v0 : Int32) (h : f_Tt_isCell_0 v0 = some r) : Gd p l e rm_Tt_isCell s m args below meth c 0 0 (MQ below (sq D classes (tyK K) (some (.int r)) ([] : List va_W) A) args s 0 0 A) D classes A 1 0 ([] : List va_W) [(0, .int v0)] [] := by
  unfold f_Tt_isCell_0 at h
  refine gd_iload_n X d_Tt_isCell_0 0 rfl ?_
  refine gd_if_lt X (tgt := 15) d_Tt_isCell_1 (by decide) (fun c_1 => ?_) (fun c_1 => ?_)
  · replace h := it_p c_1 h
    refine gd_iconst X (v := 0) d_Tt_isCell_15 (by decide) ?_
    cases h
    exact gd_zret X hr hlk (by decide) d_Tt_isCell_16
  · replace h := it_n c_1 h
    refine gd_iload_n X d_Tt_isCell_4 0 rfl ?_
    refine gd_sipush X (v := 468) d_Tt_isCell_5 (by decide) ?_
    refine gd_icmp_ge X (tgt := 15) d_Tt_isCell_8 (by decide) (fun c_2 => ?_) (fun c_2 => ?_)
    · replace h := it_p c_2 h
      refine gd_iconst X (v := 0) d_Tt_isCell_15 (by decide) ?_
      cases h
      exact gd_zret X hr hlk (by decide) d_Tt_isCell_16
    · replace h := it_n c_2 h
      refine gd_iconst X (v := 1) d_Tt_isCell_11 (by decide) ?_
      refine gd_goto X (tgt := 16) d_Tt_isCell_12 (by decide) ?_
      cases h
      exact gd_zret X hr hlk (by decide) d_Tt_isCell_16
def m_Tt_isCell (v0 : Int32) : Option ((Int32)) := f_Tt_isCell_0 v0
set_option maxHeartbeats 4000000 in
set_option maxRecDepth 100000 in
theorem c_Tt_isCell (l : Launch) (D : va_G) (K : Nat → ClassId) (v0 : Int32) (r : Int32) (h : m_Tt_isCell v0 = some r) : SMet l y_Tt_isCell w_Tt_isCell rm_Tt_isCell D classes (tyK K) [.int v0] (some (.int r)) ([] : List va_W) ([] : List va_W) := by
  refine sm_of R_Tt (by decide) rfl rfl (Nat.le_of_ble_eq_true rfl) ?_
  intro p e s m below meth c A X hr hlk
  refine gd_loc (lv' := [(0, .int v0)]) [0] rfl ?_
  exact t_Tt_isCell_0 X hr hlk r v0 h
abbrev b_Tt_forget : ByteArray := prog_7_method_4_code
def y_Tt_forget : MethodName := ⟨R_Tt, "forget", "(I)V"⟩
def w_Tt_forget : List Cond := .code y_Tt_forget b_Tt_forget 2 none :: TB
theorem k_Tt_forget : Cond.code y_Tt_forget b_Tt_forget 2 none ∈ TB := tb_of 429 (by decide +kernel) (by decide +kernel)
theorem d_Tt_forget_0 : decode b_Tt_forget 0 = .ok (.iload_n 1, 1) := by decide +kernel
theorem d_Tt_forget_1 : decode b_Tt_forget 1 = .ok (.invokestatic 30, 3) := by decide +kernel
theorem d_Tt_forget_4 : decode b_Tt_forget 4 = .ok (.ifCond .eq 25, 3) := by decide +kernel
theorem d_Tt_forget_7 : decode b_Tt_forget 7 = .ok (.aload_n 0, 1) := by decide +kernel
theorem d_Tt_forget_8 : decode b_Tt_forget 8 = .ok (.getfield 11, 3) := by decide +kernel
theorem d_Tt_forget_11 : decode b_Tt_forget 11 = .ok (.iload_n 1, 1) := by decide +kernel
theorem d_Tt_forget_12 : decode b_Tt_forget 12 = .ok (.iconst 0, 1) := by decide +kernel
theorem d_Tt_forget_13 : decode b_Tt_forget 13 = .ok (.invokestatic 34, 3) := by decide +kernel
theorem d_Tt_forget_16 : decode b_Tt_forget 16 = .ok (.iconst 0, 1) := by decide +kernel
theorem d_Tt_forget_17 : decode b_Tt_forget 17 = .ok (.iastore, 1) := by decide +kernel
theorem d_Tt_forget_18 : decode b_Tt_forget 18 = .ok (.aload_n 0, 1) := by decide +kernel
theorem d_Tt_forget_19 : decode b_Tt_forget 19 = .ok (.getfield 11, 3) := by decide +kernel
theorem d_Tt_forget_22 : decode b_Tt_forget 22 = .ok (.iload_n 1, 1) := by decide +kernel
theorem d_Tt_forget_23 : decode b_Tt_forget 23 = .ok (.iconst 1, 1) := by decide +kernel
theorem d_Tt_forget_24 : decode b_Tt_forget 24 = .ok (.invokestatic 34, 3) := by decide +kernel
theorem d_Tt_forget_27 : decode b_Tt_forget 27 = .ok (.iconst 0, 1) := by decide +kernel
theorem d_Tt_forget_28 : decode b_Tt_forget 28 = .ok (.iastore, 1) := by decide +kernel
theorem d_Tt_forget_29 : decode b_Tt_forget 29 = .ok (.return_, 1) := by decide +kernel
theorem ml_Tt_30 : Cond.methodLink R_Tt 30 ⟨"RuleTrees$TreeTable", "isCell", "(I)Z"⟩ ∈ TB := tb_of 430 (by decide +kernel) (by decide +kernel)
theorem u_Tt_isCell : Cond.static y_Tt_isCell ∈ TB ∧ Cond.initialized y_Tt_isCell.cls ∈ TB ∧ Cond.code y_Tt_isCell b_Tt_isCell 1 (some .boolean) ∈ TB := ⟨(tb_of 431 (by decide +kernel) (by decide +kernel)), (tb_of 65 (by decide +kernel) (by decide +kernel)), k_Tt_isCell⟩
theorem ml_Tt_34 : Cond.methodLink R_Tt 34 ⟨"RuleTrees$TreeTable", "treeOf", "(II)I"⟩ ∈ TB := tb_of 433 (by decide +kernel) (by decide +kernel)
theorem u_Tt_treeOf : Cond.static y_Tt_treeOf ∈ TB ∧ Cond.initialized y_Tt_treeOf.cls ∈ TB ∧ Cond.code y_Tt_treeOf b_Tt_treeOf 2 (some .int) ∈ TB := ⟨(tb_of 434 (by decide +kernel) (by decide +kernel)), (tb_of 65 (by decide +kernel) (by decide +kernel)), k_Tt_treeOf⟩
abbrev rm_Tt_forget : Room := { frames := 1, cells := 0, slots := 0, locals := 21 }
def f_Tt_forget_0 (s_self : Nat → Nat → Int32) (v1 : Int32) : Option ((Nat → Nat → Int32)) :=
  bd1 (m_Tt_isCell v1) fun r_1 =>
  if r_1 = 0 then
    some s_self
  else
    bd1 (m_Tt_treeOf v1 0) fun r_4 =>
    ck r_4 937 <| nm (st2 s_self 1 (Int32.toNatClampNeg r_4) 0) fun s_self_7 =>
    bd1 (m_Tt_treeOf v1 1) fun r_8 =>
    ck r_8 937 <| nm (st2 s_self_7 1 (Int32.toNatClampNeg r_8) 0) fun s_self_11 =>
    some s_self_11
set_option maxHeartbeats 4000000 in
set_option maxRecDepth 100000 in
theorem t_Tt_forget_0 {p : Program} {l : Launch} {e : Env} {s : State} {m : MethodId} {args : Array Value} {below : List Frame} {meth : Method} {c : Code} {A : Nat → Prop} {D : va_G} {K : Nat → ClassId} (a_self : Nat → Nat) (X : gx p s m args c b_Tt_forget 2 R_Tt w_Tt_forget D classes (tyK K) A) (hr : meth.sig.returnType = none) (hlk : meth.locks = false) (f_self : Nat → Nat → Int32) (s_self : Nat → Nat → Int32) (v1 : Int32) (h : f_Tt_forget_0 s_self v1 = some f_self) : Gd p l e rm_Tt_forget s m args below meth c 0 0 (MQ below (sq D classes (tyK K) none [wd_Tt K a_self f_self] A) args s 0 0 A) D classes A 2 0 [wd_Tt K a_self s_self] [(0, .ref (a_self 0)), (1, .int v1)] [] := by
  unfold f_Tt_forget_0 at h
  refine gd_iload_n X d_Tt_forget_0 1 rfl ?_
  obtain ⟨r_1, hc_2, h⟩ := bd1_e h
  refine gd_pI X (gd_Sc X (As := [.int v1]) (rest := []) (c_Tt_isCell l D K v1 r_1 hc_2) 1 (gi_S ml_Tt_30 u_Tt_isCell) rfl ⟨rfl, rfl⟩ (by decide +kernel) ⟨by decide, by decide⟩ rfl rfl (Nat.le_of_ble_eq_true rfl) ⟨Nat.zero_le _, Nat.zero_le _⟩ d_Tt_forget_1) [] rfl rfl ?_
  refine gd_if_eq X (tgt := 29) d_Tt_forget_4 (by decide) (fun c_3 => ?_) (fun c_3 => ?_)
  · replace h := it_p c_3 h
    cases h
    exact gd_vret X hr hlk d_Tt_forget_29
  · replace h := it_n c_3 h
    refine gd_aload_n X d_Tt_forget_7 0 rfl ?_
    refine gd_get X (ci := 2) (C := R_Tt) (T := F_Tt) (N := 6) (v := .ref (a_self 1)) 0 0 rfl rfl rfl (in_Tt _) 0 (by decide) (List.mem_cons_of_mem _ fl_Tt_11) rfl rfl d_Tt_forget_8 ?_
    refine gd_iload_n X d_Tt_forget_11 1 rfl ?_
    refine gd_iconst X (v := 0) d_Tt_forget_12 (by decide) ?_
    obtain ⟨r_4, hc_5, h⟩ := bd1_e h
    refine gd_pI X (gd_Sc X (As := [.int v1, .int 0]) (rest := [.ref (a_self 1)]) (c_Tt_treeOf l D K v1 0 r_4 hc_5) 2 (gi_S ml_Tt_34 u_Tt_treeOf) rfl ⟨rfl, rfl⟩ (by decide +kernel) ⟨by decide, by decide⟩ rfl rfl (Nat.le_of_ble_eq_true rfl) ⟨Nat.zero_le _, Nat.zero_le _⟩ d_Tt_forget_13) [] rfl rfl ?_
    refine gd_iconst X (v := 0) d_Tt_forget_16 (by decide) ?_
    obtain ⟨hi_6, h⟩ := ck_e h
    obtain ⟨s_self_7, es_self_7, h⟩ := nm_e' h
    refine gd_iast X (w' := [wd_Tt K a_self s_self_7]) 0 1 0 rfl rfl rfl hi_6 d_Tt_forget_17 (by rw [es_self_7]; rfl) ?_
    refine gd_aload_n X d_Tt_forget_18 0 rfl ?_
    refine gd_get X (ci := 2) (C := R_Tt) (T := F_Tt) (N := 6) (v := .ref (a_self 1)) 0 0 rfl rfl rfl (in_Tt _) 0 (by decide) (List.mem_cons_of_mem _ fl_Tt_11) rfl rfl d_Tt_forget_19 ?_
    refine gd_iload_n X d_Tt_forget_22 1 rfl ?_
    refine gd_iconst X (v := 1) d_Tt_forget_23 (by decide) ?_
    obtain ⟨r_8, hc_9, h⟩ := bd1_e h
    refine gd_pI X (gd_Sc X (As := [.int v1, .int 1]) (rest := [.ref (a_self 1)]) (c_Tt_treeOf l D K v1 1 r_8 hc_9) 2 (gi_S ml_Tt_34 u_Tt_treeOf) rfl ⟨rfl, rfl⟩ (by decide +kernel) ⟨by decide, by decide⟩ rfl rfl (Nat.le_of_ble_eq_true rfl) ⟨Nat.zero_le _, Nat.zero_le _⟩ d_Tt_forget_24) [] rfl rfl ?_
    refine gd_iconst X (v := 0) d_Tt_forget_27 (by decide) ?_
    obtain ⟨hi_10, h⟩ := ck_e h
    obtain ⟨s_self_11, es_self_11, h⟩ := nm_e' h
    refine gd_iast X (w' := [wd_Tt K a_self s_self_11]) 0 1 0 rfl rfl rfl hi_10 d_Tt_forget_28 (by rw [es_self_11]; rfl) ?_
    cases h
    exact gd_vret X hr hlk d_Tt_forget_29
def m_Tt_forget (s_self : Nat → Nat → Int32) (v1 : Int32) : Option ((Nat → Nat → Int32)) := f_Tt_forget_0 s_self v1
set_option maxHeartbeats 4000000 in
set_option maxRecDepth 100000 in
theorem c_Tt_forget (l : Launch) (D : va_G) (K : Nat → ClassId) (a_self : Nat → Nat) (s_self : Nat → Nat → Int32) (v1 : Int32) (f_self : Nat → Nat → Int32) (h : m_Tt_forget s_self v1 = some f_self) : SMet l y_Tt_forget w_Tt_forget rm_Tt_forget D classes (tyK K) [.ref (a_self 0), .int v1] none [wd_Tt K a_self s_self] [wd_Tt K a_self f_self] := by
  refine sm_of R_Tt (by decide) rfl rfl (Nat.le_of_ble_eq_true rfl) ?_
  intro p e s m below meth c A X hr hlk
  refine gd_loc (lv' := [(0, .ref (a_self 0)), (1, .int v1)]) [0, 1] rfl ?_
  exact t_Tt_forget_0 a_self X hr hlk f_self s_self v1 h
abbrev b_Tt_startDraft : ByteArray := prog_7_method_5_code
def y_Tt_startDraft : MethodName := ⟨R_Tt, "startDraft", "(II)V"⟩
def w_Tt_startDraft : List Cond := .code y_Tt_startDraft b_Tt_startDraft 3 none :: TB
theorem k_Tt_startDraft : Cond.code y_Tt_startDraft b_Tt_startDraft 3 none ∈ TB := tb_of 447 (by decide +kernel) (by decide +kernel)
theorem d_Tt_startDraft_0 : decode b_Tt_startDraft 0 = .ok (.aload_n 0, 1) := by decide +kernel
theorem d_Tt_startDraft_1 : decode b_Tt_startDraft 1 = .ok (.getfield 15, 3) := by decide +kernel
theorem d_Tt_startDraft_4 : decode b_Tt_startDraft 4 = .ok (.sipush 936, 3) := by decide +kernel
theorem d_Tt_startDraft_7 : decode b_Tt_startDraft 7 = .ok (.iload_n 1, 1) := by decide +kernel
theorem d_Tt_startDraft_8 : decode b_Tt_startDraft 8 = .ok (.iastore, 1) := by decide +kernel
theorem d_Tt_startDraft_9 : decode b_Tt_startDraft 9 = .ok (.aload_n 0, 1) := by decide +kernel
theorem d_Tt_startDraft_10 : decode b_Tt_startDraft 10 = .ok (.getfield 18, 3) := by decide +kernel
theorem d_Tt_startDraft_13 : decode b_Tt_startDraft 13 = .ok (.sipush 936, 3) := by decide +kernel
theorem d_Tt_startDraft_16 : decode b_Tt_startDraft 16 = .ok (.iload_n 2, 1) := by decide +kernel
theorem d_Tt_startDraft_17 : decode b_Tt_startDraft 17 = .ok (.iconst 4, 1) := by decide +kernel
theorem d_Tt_startDraft_18 : decode b_Tt_startDraft 18 = .ok (.invokestatic 38, 3) := by decide +kernel
theorem d_Tt_startDraft_21 : decode b_Tt_startDraft 21 = .ok (.iastore, 1) := by decide +kernel
theorem d_Tt_startDraft_22 : decode b_Tt_startDraft 22 = .ok (.return_, 1) := by decide +kernel
theorem fl_Tt_15 : Cond.fieldLink R_Tt 15 "RuleTrees$TreeTable" "heads" "[I" ∈ TB := tb_of 142 (by decide +kernel) (by decide +kernel)
theorem fl_Tt_18 : Cond.fieldLink R_Tt 18 "RuleTrees$TreeTable" "partCounts" "[I" ∈ TB := tb_of 143 (by decide +kernel) (by decide +kernel)
theorem ml_Tt_38 : Cond.methodLink R_Tt 38 ⟨"java/lang/Math", "min", "(II)I"⟩ ∈ TB := tb_of 448 (by decide +kernel) (by decide +kernel)
abbrev rm_Tt_startDraft : Room := { frames := 1, cells := 0, slots := 0, locals := 21 }
def f_Tt_startDraft_0 (s_self : Nat → Nat → Int32) (v1 v2 : Int32) : Option ((Nat → Nat → Int32)) :=
  ck 936 937 <| nm (st2 s_self 2 (Int32.toNatClampNeg 936) v1) fun s_self_2 =>
  nm (if 4 < v2 then 4 else v2) fun v_3 =>
  ck 936 937 <| nm (st2 s_self_2 3 (Int32.toNatClampNeg 936) v_3) fun s_self_5 =>
  some s_self_5
set_option maxHeartbeats 4000000 in
set_option maxRecDepth 100000 in
theorem t_Tt_startDraft_0 {p : Program} {l : Launch} {e : Env} {s : State} {m : MethodId} {args : Array Value} {below : List Frame} {meth : Method} {c : Code} {A : Nat → Prop} {D : va_G} {K : Nat → ClassId} (a_self : Nat → Nat) (X : gx p s m args c b_Tt_startDraft 3 R_Tt w_Tt_startDraft D classes (tyK K) A) (hr : meth.sig.returnType = none) (hlk : meth.locks = false) (f_self : Nat → Nat → Int32) (s_self : Nat → Nat → Int32) (v1 v2 : Int32) (h : f_Tt_startDraft_0 s_self v1 v2 = some f_self) : Gd p l e rm_Tt_startDraft s m args below meth c 0 0 (MQ below (sq D classes (tyK K) none [wd_Tt K a_self f_self] A) args s 0 0 A) D classes A 3 0 [wd_Tt K a_self s_self] [(0, .ref (a_self 0)), (1, .int v1), (2, .int v2)] [] := by
  unfold f_Tt_startDraft_0 at h
  refine gd_aload_n X d_Tt_startDraft_0 0 rfl ?_
  refine gd_get X (ci := 2) (C := R_Tt) (T := F_Tt) (N := 6) (v := .ref (a_self 2)) 0 0 rfl rfl rfl (in_Tt _) 1 (by decide) (List.mem_cons_of_mem _ fl_Tt_15) rfl rfl d_Tt_startDraft_1 ?_
  refine gd_sipush X (v := 936) d_Tt_startDraft_4 (by decide) ?_
  refine gd_iload_n X d_Tt_startDraft_7 1 rfl ?_
  obtain ⟨hi_1, h⟩ := ck_e h
  obtain ⟨s_self_2, es_self_2, h⟩ := nm_e' h
  refine gd_iast X (w' := [wd_Tt K a_self s_self_2]) 0 2 0 rfl rfl rfl hi_1 d_Tt_startDraft_8 (by rw [es_self_2]; rfl) ?_
  refine gd_aload_n X d_Tt_startDraft_9 0 rfl ?_
  refine gd_get X (ci := 2) (C := R_Tt) (T := F_Tt) (N := 6) (v := .ref (a_self 3)) 0 0 rfl rfl rfl (in_Tt _) 2 (by decide) (List.mem_cons_of_mem _ fl_Tt_18) rfl rfl d_Tt_startDraft_10 ?_
  refine gd_sipush X (v := 936) d_Tt_startDraft_13 (by decide) ?_
  refine gd_iload_n X d_Tt_startDraft_16 2 rfl ?_
  refine gd_iconst X (v := 4) d_Tt_startDraft_17 (by decide) ?_
  obtain ⟨v_3, ev_3, h⟩ := nm_e' h
  refine gd_mmin X (List.mem_cons_of_mem _ ml_Tt_38) (List.mem_cons_of_mem _ mw_min_1) (List.mem_cons_of_mem _ mw_min_2) (List.mem_cons_of_mem _ mw_min_3) (Nat.le_of_ble_eq_true rfl) (Nat.le_of_ble_eq_true rfl) ⟨Nat.zero_le _, Nat.zero_le _⟩ d_Tt_startDraft_18 ?_
  refine gd_topi ev_3 ?_
  obtain ⟨hi_4, h⟩ := ck_e h
  obtain ⟨s_self_5, es_self_5, h⟩ := nm_e' h
  refine gd_iast X (w' := [wd_Tt K a_self s_self_5]) 0 3 0 rfl rfl rfl hi_4 d_Tt_startDraft_21 (by rw [es_self_5]; rfl) ?_
  cases h
  exact gd_vret X hr hlk d_Tt_startDraft_22
def m_Tt_startDraft (s_self : Nat → Nat → Int32) (v1 v2 : Int32) : Option ((Nat → Nat → Int32)) := f_Tt_startDraft_0 s_self v1 v2
set_option maxHeartbeats 4000000 in
set_option maxRecDepth 100000 in
theorem c_Tt_startDraft (l : Launch) (D : va_G) (K : Nat → ClassId) (a_self : Nat → Nat) (s_self : Nat → Nat → Int32) (v1 v2 : Int32) (f_self : Nat → Nat → Int32) (h : m_Tt_startDraft s_self v1 v2 = some f_self) : SMet l y_Tt_startDraft w_Tt_startDraft rm_Tt_startDraft D classes (tyK K) [.ref (a_self 0), .int v1, .int v2] none [wd_Tt K a_self s_self] [wd_Tt K a_self f_self] := by
  refine sm_of R_Tt (by decide) rfl rfl (Nat.le_of_ble_eq_true rfl) ?_
  intro p e s m below meth c A X hr hlk
  refine gd_loc (lv' := [(0, .ref (a_self 0)), (1, .int v1), (2, .int v2)]) [0, 1, 2] rfl ?_
  exact t_Tt_startDraft_0 a_self X hr hlk f_self s_self v1 v2 h
abbrev b_Tt_setDraftPart : ByteArray := prog_7_method_6_code
def y_Tt_setDraftPart : MethodName := ⟨R_Tt, "setDraftPart", "(II)V"⟩
def w_Tt_setDraftPart : List Cond := .code y_Tt_setDraftPart b_Tt_setDraftPart 3 none :: TB
theorem k_Tt_setDraftPart : Cond.code y_Tt_setDraftPart b_Tt_setDraftPart 3 none ∈ TB := tb_of 505 (by decide +kernel) (by decide +kernel)
theorem d_Tt_setDraftPart_0 : decode b_Tt_setDraftPart 0 = .ok (.iload_n 1, 1) := by decide +kernel
theorem d_Tt_setDraftPart_1 : decode b_Tt_setDraftPart 1 = .ok (.ifCond .lt 30, 3) := by decide +kernel
theorem d_Tt_setDraftPart_4 : decode b_Tt_setDraftPart 4 = .ok (.iload_n 1, 1) := by decide +kernel
theorem d_Tt_setDraftPart_5 : decode b_Tt_setDraftPart 5 = .ok (.iconst 4, 1) := by decide +kernel
theorem d_Tt_setDraftPart_6 : decode b_Tt_setDraftPart 6 = .ok (.if_icmp .ge 25, 3) := by decide +kernel
theorem d_Tt_setDraftPart_9 : decode b_Tt_setDraftPart 9 = .ok (.iload_n 2, 1) := by decide +kernel
theorem d_Tt_setDraftPart_10 : decode b_Tt_setDraftPart 10 = .ok (.ifCond .lt 21, 3) := by decide +kernel
theorem d_Tt_setDraftPart_13 : decode b_Tt_setDraftPart 13 = .ok (.iload_n 2, 1) := by decide +kernel
theorem d_Tt_setDraftPart_14 : decode b_Tt_setDraftPart 14 = .ok (.sipush 936, 3) := by decide +kernel
theorem d_Tt_setDraftPart_17 : decode b_Tt_setDraftPart 17 = .ok (.if_icmp .ge 14, 3) := by decide +kernel
theorem d_Tt_setDraftPart_20 : decode b_Tt_setDraftPart 20 = .ok (.aload_n 0, 1) := by decide +kernel
theorem d_Tt_setDraftPart_21 : decode b_Tt_setDraftPart 21 = .ok (.getfield 21, 3) := by decide +kernel
theorem d_Tt_setDraftPart_24 : decode b_Tt_setDraftPart 24 = .ok (.sipush 3744, 3) := by decide +kernel
theorem d_Tt_setDraftPart_27 : decode b_Tt_setDraftPart 27 = .ok (.iload_n 1, 1) := by decide +kernel
theorem d_Tt_setDraftPart_28 : decode b_Tt_setDraftPart 28 = .ok (.iadd, 1) := by decide +kernel
theorem d_Tt_setDraftPart_29 : decode b_Tt_setDraftPart 29 = .ok (.iload_n 2, 1) := by decide +kernel
theorem d_Tt_setDraftPart_30 : decode b_Tt_setDraftPart 30 = .ok (.iastore, 1) := by decide +kernel
theorem d_Tt_setDraftPart_31 : decode b_Tt_setDraftPart 31 = .ok (.return_, 1) := by decide +kernel
theorem fl_Tt_21 : Cond.fieldLink R_Tt 21 "RuleTrees$TreeTable" "parts" "[I" ∈ TB := tb_of 144 (by decide +kernel) (by decide +kernel)
abbrev rm_Tt_setDraftPart : Room := { frames := 0, cells := 0, slots := 0, locals := 0 }
def f_Tt_setDraftPart_0 (s_self : Nat → Nat → Int32) (v1 v2 : Int32) : Option ((Nat → Nat → Int32)) :=
  if v1 < 0 then
    some s_self
  else
    if 4 ≤ v1 then
      some s_self
    else
      if v2 < 0 then
        some s_self
      else
        if 936 ≤ v2 then
          some s_self
        else
          ck (3744 + v1) 3748 <| nm (st2 s_self 4 (Int32.toNatClampNeg (3744 + v1)) v2) fun s_self_6 =>
          some s_self_6
set_option maxHeartbeats 4000000 in
set_option maxRecDepth 100000 in
theorem t_Tt_setDraftPart_0 {p : Program} {l : Launch} {e : Env} {s : State} {m : MethodId} {args : Array Value} {below : List Frame} {meth : Method} {c : Code} {A : Nat → Prop} {D : va_G} {K : Nat → ClassId} (a_self : Nat → Nat) (X : gx p s m args c b_Tt_setDraftPart 3 R_Tt w_Tt_setDraftPart D classes (tyK K) A) (hr : meth.sig.returnType = none) (hlk : meth.locks = false) (f_self : Nat → Nat → Int32) (s_self : Nat → Nat → Int32) (v1 v2 : Int32) (h : f_Tt_setDraftPart_0 s_self v1 v2 = some f_self) : Gd p l e rm_Tt_setDraftPart s m args below meth c 0 0 (MQ below (sq D classes (tyK K) none [wd_Tt K a_self f_self] A) args s 0 0 A) D classes A 3 0 [wd_Tt K a_self s_self] [(0, .ref (a_self 0)), (1, .int v1), (2, .int v2)] [] := by
  unfold f_Tt_setDraftPart_0 at h
  refine gd_iload_n X d_Tt_setDraftPart_0 1 rfl ?_
  refine gd_if_lt X (tgt := 31) d_Tt_setDraftPart_1 (by decide) (fun c_1 => ?_) (fun c_1 => ?_)
  · replace h := it_p c_1 h
    cases h
    exact gd_vret X hr hlk d_Tt_setDraftPart_31
  · replace h := it_n c_1 h
    refine gd_iload_n X d_Tt_setDraftPart_4 1 rfl ?_
    refine gd_iconst X (v := 4) d_Tt_setDraftPart_5 (by decide) ?_
    refine gd_icmp_ge X (tgt := 31) d_Tt_setDraftPart_6 (by decide) (fun c_2 => ?_) (fun c_2 => ?_)
    · replace h := it_p c_2 h
      cases h
      exact gd_vret X hr hlk d_Tt_setDraftPart_31
    · replace h := it_n c_2 h
      refine gd_iload_n X d_Tt_setDraftPart_9 2 rfl ?_
      refine gd_if_lt X (tgt := 31) d_Tt_setDraftPart_10 (by decide) (fun c_3 => ?_) (fun c_3 => ?_)
      · replace h := it_p c_3 h
        cases h
        exact gd_vret X hr hlk d_Tt_setDraftPart_31
      · replace h := it_n c_3 h
        refine gd_iload_n X d_Tt_setDraftPart_13 2 rfl ?_
        refine gd_sipush X (v := 936) d_Tt_setDraftPart_14 (by decide) ?_
        refine gd_icmp_ge X (tgt := 31) d_Tt_setDraftPart_17 (by decide) (fun c_4 => ?_) (fun c_4 => ?_)
        · replace h := it_p c_4 h
          cases h
          exact gd_vret X hr hlk d_Tt_setDraftPart_31
        · replace h := it_n c_4 h
          refine gd_aload_n X d_Tt_setDraftPart_20 0 rfl ?_
          refine gd_get X (ci := 2) (C := R_Tt) (T := F_Tt) (N := 6) (v := .ref (a_self 4)) 0 0 rfl rfl rfl (in_Tt _) 3 (by decide) (List.mem_cons_of_mem _ fl_Tt_21) rfl rfl d_Tt_setDraftPart_21 ?_
          refine gd_sipush X (v := 3744) d_Tt_setDraftPart_24 (by decide) ?_
          refine gd_iload_n X d_Tt_setDraftPart_27 1 rfl ?_
          refine gd_iadd X d_Tt_setDraftPart_28 ?_
          refine gd_iload_n X d_Tt_setDraftPart_29 2 rfl ?_
          obtain ⟨hi_5, h⟩ := ck_e h
          obtain ⟨s_self_6, es_self_6, h⟩ := nm_e' h
          refine gd_iast X (w' := [wd_Tt K a_self s_self_6]) 0 4 0 rfl rfl rfl hi_5 d_Tt_setDraftPart_30 (by rw [es_self_6]; rfl) ?_
          cases h
          exact gd_vret X hr hlk d_Tt_setDraftPart_31
def m_Tt_setDraftPart (s_self : Nat → Nat → Int32) (v1 v2 : Int32) : Option ((Nat → Nat → Int32)) := f_Tt_setDraftPart_0 s_self v1 v2
set_option maxHeartbeats 4000000 in
set_option maxRecDepth 100000 in
theorem c_Tt_setDraftPart (l : Launch) (D : va_G) (K : Nat → ClassId) (a_self : Nat → Nat) (s_self : Nat → Nat → Int32) (v1 v2 : Int32) (f_self : Nat → Nat → Int32) (h : m_Tt_setDraftPart s_self v1 v2 = some f_self) : SMet l y_Tt_setDraftPart w_Tt_setDraftPart rm_Tt_setDraftPart D classes (tyK K) [.ref (a_self 0), .int v1, .int v2] none [wd_Tt K a_self s_self] [wd_Tt K a_self f_self] := by
  refine sm_of R_Tt (by decide) rfl rfl (Nat.le_of_ble_eq_true rfl) ?_
  intro p e s m below meth c A X hr hlk
  refine gd_loc (lv' := [(0, .ref (a_self 0)), (1, .int v1), (2, .int v2)]) [0, 1, 2] rfl ?_
  exact t_Tt_setDraftPart_0 a_self X hr hlk f_self s_self v1 v2 h
