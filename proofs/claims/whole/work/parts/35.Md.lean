abbrev b_Md_sum : ByteArray := prog_10_method_19_code
def y_Md_sum : MethodName := ⟨R_Md, "sum", "(II)I"⟩
def w_Md_sum : List Cond := .code y_Md_sum b_Md_sum 2 (some .int) :: TB
theorem k_Md_sum : Cond.code y_Md_sum b_Md_sum 2 (some .int) ∈ TB := tb_of 937 (by decide +kernel) (by decide +kernel)
theorem d_Md_sum_0 : decode b_Md_sum 0 = .ok (.iload_n 0, 1) := by decide +kernel
theorem d_Md_sum_1 : decode b_Md_sum 1 = .ok (.bipush (-3), 2) := by decide +kernel
theorem d_Md_sum_3 : decode b_Md_sum 3 = .ok (.if_icmp .eq 9, 3) := by decide +kernel
theorem d_Md_sum_6 : decode b_Md_sum 6 = .ok (.iload_n 1, 1) := by decide +kernel
theorem d_Md_sum_7 : decode b_Md_sum 7 = .ok (.bipush (-3), 2) := by decide +kernel
theorem d_Md_sum_9 : decode b_Md_sum 9 = .ok (.if_icmp .ne 8, 3) := by decide +kernel
theorem d_Md_sum_12 : decode b_Md_sum 12 = .ok (.bipush (-3), 2) := by decide +kernel
theorem d_Md_sum_14 : decode b_Md_sum 14 = .ok (.goto 19, 3) := by decide +kernel
theorem d_Md_sum_17 : decode b_Md_sum 17 = .ok (.iload_n 0, 1) := by decide +kernel
theorem d_Md_sum_18 : decode b_Md_sum 18 = .ok (.iload_n 1, 1) := by decide +kernel
theorem d_Md_sum_19 : decode b_Md_sum 19 = .ok (.iadd, 1) := by decide +kernel
theorem d_Md_sum_20 : decode b_Md_sum 20 = .ok (.ldc 132, 2) := by decide +kernel
theorem d_Md_sum_22 : decode b_Md_sum 22 = .ok (.if_icmp .le 8, 3) := by decide +kernel
theorem d_Md_sum_25 : decode b_Md_sum 25 = .ok (.ldc 132, 2) := by decide +kernel
theorem d_Md_sum_27 : decode b_Md_sum 27 = .ok (.goto 6, 3) := by decide +kernel
theorem d_Md_sum_30 : decode b_Md_sum 30 = .ok (.iload_n 0, 1) := by decide +kernel
theorem d_Md_sum_31 : decode b_Md_sum 31 = .ok (.iload_n 1, 1) := by decide +kernel
theorem d_Md_sum_32 : decode b_Md_sum 32 = .ok (.iadd, 1) := by decide +kernel
theorem d_Md_sum_33 : decode b_Md_sum 33 = .ok (.ireturn, 1) := by decide +kernel
theorem kc_Md_132 : Cond.constant R_Md 132 1000001 ∈ TB := tb_of 934 (by decide +kernel) (by decide +kernel)
abbrev rm_Md_sum : Room := { frames := 0, cells := 0, slots := 0, locals := 0 }
def f_Md_sum_0 (v0 v1 : Int32) : Option ((Int32)) :=
  if v0 = (-3) then
    some ((-3))
  else
    if v1 = (-3) then
      some ((-3))
    else
      if (v0 + v1) ≤ 1000001 then
        some (v0 + v1)
      else
        some (1000001)
set_option maxHeartbeats 4000000 in
set_option maxRecDepth 100000 in
theorem t_Md_sum_0 {p : Program} {l : Launch} {e : Env} {s : State} {m : MethodId} {args : Array Value} {below : List Frame} {meth : Method} {c : Code} {A : Nat → Prop} {D : va_G} {K : Nat → ClassId} (X : gx p s m args c b_Md_sum 2 R_Md w_Md_sum D classes (tyK K) A) (hr : meth.sig.returnType = some .int) (hlk : meth.locks = false) (r : Int32) (v0 v1 : Int32) (h : f_Md_sum_0 v0 v1 = some r) : Gd p l e rm_Md_sum s m args below meth c 0 0 (MQ below (sq D classes (tyK K) (some (.int r)) ([] : List va_W) A) args s 0 0 A) D classes A 2 0 ([] : List va_W) [(0, .int v0), (1, .int v1)] [] := by
  unfold f_Md_sum_0 at h
  refine gd_iload_n X d_Md_sum_0 0 rfl ?_
  refine gd_bipush X (v := (-3)) d_Md_sum_1 (by decide) ?_
  refine gd_icmp_eq X (tgt := 12) d_Md_sum_3 (by decide) (fun c_1 => ?_) (fun c_1 => ?_)
  · replace h := it_p c_1 h
    refine gd_bipush X (v := (-3)) d_Md_sum_12 (by decide) ?_
    refine gd_goto X (tgt := 33) d_Md_sum_14 (by decide) ?_
    cases h
    exact gd_iret X hr hlk d_Md_sum_33
  · replace h := it_n c_1 h
    refine gd_iload_n X d_Md_sum_6 1 rfl ?_
    refine gd_bipush X (v := (-3)) d_Md_sum_7 (by decide) ?_
    refine gd_icmp_ne X (tgt := 17) d_Md_sum_9 (by decide) (fun c_2 => ?_) (fun c_2 => ?_)
    · replace h := it_n c_2 h
      refine gd_iload_n X d_Md_sum_17 0 rfl ?_
      refine gd_iload_n X d_Md_sum_18 1 rfl ?_
      refine gd_iadd X d_Md_sum_19 ?_
      refine gd_ldc X (v := 1000001) (List.mem_cons_of_mem _ kc_Md_132) d_Md_sum_20 ?_
      refine gd_icmp_le X (tgt := 30) d_Md_sum_22 (by decide) (fun c_3 => ?_) (fun c_3 => ?_)
      · replace h := it_p c_3 h
        refine gd_iload_n X d_Md_sum_30 0 rfl ?_
        refine gd_iload_n X d_Md_sum_31 1 rfl ?_
        refine gd_iadd X d_Md_sum_32 ?_
        cases h
        exact gd_iret X hr hlk d_Md_sum_33
      · replace h := it_n c_3 h
        refine gd_ldc X (v := 1000001) (List.mem_cons_of_mem _ kc_Md_132) d_Md_sum_25 ?_
        refine gd_goto X (tgt := 33) d_Md_sum_27 (by decide) ?_
        cases h
        exact gd_iret X hr hlk d_Md_sum_33
    · replace h := it_p c_2 h
      refine gd_bipush X (v := (-3)) d_Md_sum_12 (by decide) ?_
      refine gd_goto X (tgt := 33) d_Md_sum_14 (by decide) ?_
      cases h
      exact gd_iret X hr hlk d_Md_sum_33
def m_Md_sum (v0 v1 : Int32) : Option ((Int32)) := f_Md_sum_0 v0 v1
set_option maxHeartbeats 4000000 in
set_option maxRecDepth 100000 in
theorem c_Md_sum (l : Launch) (D : va_G) (K : Nat → ClassId) (v0 v1 : Int32) (r : Int32) (h : m_Md_sum v0 v1 = some r) : SMet l y_Md_sum w_Md_sum rm_Md_sum D classes (tyK K) [.int v0, .int v1] (some (.int r)) ([] : List va_W) ([] : List va_W) := by
  refine sm_of R_Md (by decide) rfl rfl (Nat.le_of_ble_eq_true rfl) ?_
  intro p e s m below meth c A X hr hlk
  refine gd_loc (lv' := [(0, .int v0), (1, .int v1)]) [0, 1] rfl ?_
  exact t_Md_sum_0 X hr hlk r v0 v1 h
abbrev b_Md_product : ByteArray := prog_10_method_20_code
def y_Md_product : MethodName := ⟨R_Md, "product", "(II)I"⟩
def w_Md_product : List Cond := .code y_Md_product b_Md_product 4 (some .int) :: TB
theorem k_Md_product : Cond.code y_Md_product b_Md_product 4 (some .int) ∈ TB := tb_of 932 (by decide +kernel) (by decide +kernel)
theorem d_Md_product_0 : decode b_Md_product 0 = .ok (.iload_n 0, 1) := by decide +kernel
theorem d_Md_product_1 : decode b_Md_product 1 = .ok (.ifCond .eq 7, 3) := by decide +kernel
theorem d_Md_product_4 : decode b_Md_product 4 = .ok (.iload_n 1, 1) := by decide +kernel
theorem d_Md_product_5 : decode b_Md_product 5 = .ok (.ifCond .ne 5, 3) := by decide +kernel
theorem d_Md_product_8 : decode b_Md_product 8 = .ok (.iconst 0, 1) := by decide +kernel
theorem d_Md_product_9 : decode b_Md_product 9 = .ok (.ireturn, 1) := by decide +kernel
theorem d_Md_product_10 : decode b_Md_product 10 = .ok (.iload_n 0, 1) := by decide +kernel
theorem d_Md_product_11 : decode b_Md_product 11 = .ok (.bipush (-3), 2) := by decide +kernel
theorem d_Md_product_13 : decode b_Md_product 13 = .ok (.if_icmp .eq 9, 3) := by decide +kernel
theorem d_Md_product_16 : decode b_Md_product 16 = .ok (.iload_n 1, 1) := by decide +kernel
theorem d_Md_product_17 : decode b_Md_product 17 = .ok (.bipush (-3), 2) := by decide +kernel
theorem d_Md_product_19 : decode b_Md_product 19 = .ok (.if_icmp .ne 6, 3) := by decide +kernel
theorem d_Md_product_22 : decode b_Md_product 22 = .ok (.bipush (-3), 2) := by decide +kernel
theorem d_Md_product_24 : decode b_Md_product 24 = .ok (.ireturn, 1) := by decide +kernel
theorem d_Md_product_25 : decode b_Md_product 25 = .ok (.iload_n 0, 1) := by decide +kernel
theorem d_Md_product_26 : decode b_Md_product 26 = .ok (.i2l, 1) := by decide +kernel
theorem d_Md_product_27 : decode b_Md_product 27 = .ok (.iload_n 1, 1) := by decide +kernel
theorem d_Md_product_28 : decode b_Md_product 28 = .ok (.i2l, 1) := by decide +kernel
theorem d_Md_product_29 : decode b_Md_product 29 = .ok (.lmul, 1) := by decide +kernel
theorem d_Md_product_30 : decode b_Md_product 30 = .ok (.lstore_n 2, 1) := by decide +kernel
theorem d_Md_product_31 : decode b_Md_product 31 = .ok (.lload_n 2, 1) := by decide +kernel
theorem d_Md_product_32 : decode b_Md_product 32 = .ok (.ldc2_w 133, 3) := by decide +kernel
theorem d_Md_product_35 : decode b_Md_product 35 = .ok (.lcmp, 1) := by decide +kernel
theorem d_Md_product_36 : decode b_Md_product 36 = .ok (.ifCond .le 8, 3) := by decide +kernel
theorem d_Md_product_39 : decode b_Md_product 39 = .ok (.ldc 132, 2) := by decide +kernel
theorem d_Md_product_41 : decode b_Md_product 41 = .ok (.goto 5, 3) := by decide +kernel
theorem d_Md_product_44 : decode b_Md_product 44 = .ok (.lload_n 2, 1) := by decide +kernel
theorem d_Md_product_45 : decode b_Md_product 45 = .ok (.l2i, 1) := by decide +kernel
theorem d_Md_product_46 : decode b_Md_product 46 = .ok (.ireturn, 1) := by decide +kernel
theorem kc_Md_133 : Cond.constantLong R_Md 133 1000001 ∈ TB := tb_of 933 (by decide +kernel) (by decide +kernel)
abbrev rm_Md_product : Room := { frames := 0, cells := 0, slots := 0, locals := 0 }
def f_Md_product_0 (v0 v1 : Int32) : Option ((Int32)) :=
  if v0 = 0 then
    some (0)
  else
    if v1 = 0 then
      some (0)
    else
      if v0 = (-3) then
        some ((-3))
      else
        if v1 = (-3) then
          some ((-3))
        else
          nm ((Int32.toInt64 v0) * (Int32.toInt64 v1)) fun v2_5 =>
          if (lg_cmp v2_5 1000001) ≤ 0 then
            some (Int64.toInt32 v2_5)
          else
            some (1000001)
set_option maxHeartbeats 4000000 in
set_option maxRecDepth 100000 in
theorem t_Md_product_0 {p : Program} {l : Launch} {e : Env} {s : State} {m : MethodId} {args : Array Value} {below : List Frame} {meth : Method} {c : Code} {A : Nat → Prop} {D : va_G} {K : Nat → ClassId} (X : gx p s m args c b_Md_product 4 R_Md w_Md_product D classes (tyK K) A) (hr : meth.sig.returnType = some .int) (hlk : meth.locks = false) (r : Int32) (v0 v1 : Int32) (h : f_Md_product_0 v0 v1 = some r) : Gd p l e rm_Md_product s m args below meth c 0 0 (MQ below (sq D classes (tyK K) (some (.int r)) ([] : List va_W) A) args s 0 0 A) D classes A 4 0 ([] : List va_W) [(0, .int v0), (1, .int v1)] [] := by
  unfold f_Md_product_0 at h
  refine gd_iload_n X d_Md_product_0 0 rfl ?_
  refine gd_if_eq X (tgt := 8) d_Md_product_1 (by decide) (fun c_1 => ?_) (fun c_1 => ?_)
  · replace h := it_p c_1 h
    refine gd_iconst X (v := 0) d_Md_product_8 (by decide) ?_
    cases h
    exact gd_iret X hr hlk d_Md_product_9
  · replace h := it_n c_1 h
    refine gd_iload_n X d_Md_product_4 1 rfl ?_
    refine gd_if_ne X (tgt := 10) d_Md_product_5 (by decide) (fun c_2 => ?_) (fun c_2 => ?_)
    · replace h := it_n c_2 h
      refine gd_iload_n X d_Md_product_10 0 rfl ?_
      refine gd_bipush X (v := (-3)) d_Md_product_11 (by decide) ?_
      refine gd_icmp_eq X (tgt := 22) d_Md_product_13 (by decide) (fun c_3 => ?_) (fun c_3 => ?_)
      · replace h := it_p c_3 h
        refine gd_bipush X (v := (-3)) d_Md_product_22 (by decide) ?_
        cases h
        exact gd_iret X hr hlk d_Md_product_24
      · replace h := it_n c_3 h
        refine gd_iload_n X d_Md_product_16 1 rfl ?_
        refine gd_bipush X (v := (-3)) d_Md_product_17 (by decide) ?_
        refine gd_icmp_ne X (tgt := 25) d_Md_product_19 (by decide) (fun c_4 => ?_) (fun c_4 => ?_)
        · replace h := it_n c_4 h
          refine gd_iload_n X d_Md_product_25 0 rfl ?_
          refine gd_i2l X d_Md_product_26 ?_
          refine gd_iload_n X d_Md_product_27 1 rfl ?_
          refine gd_i2l X d_Md_product_28 ?_
          refine gd_lmul X d_Md_product_29 ?_
          obtain ⟨v2_5, ev2_5, h⟩ := nm_e' h
          refine gd_topl ev2_5 ?_
          refine gd_lstore_n X (lv' := [(2, .long v2_5), (0, .int v0), (1, .int v1)]) d_Md_product_30 rfl (by decide) rfl ?_
          refine gd_lload_n X d_Md_product_31 0 rfl ?_
          refine gd_ldc2 X (v := 1000001) (List.mem_cons_of_mem _ kc_Md_133) d_Md_product_32 ?_
          refine gd_lcmp X d_Md_product_35 ?_
          refine gd_if_le X (tgt := 44) d_Md_product_36 (by decide) (fun c_6 => ?_) (fun c_6 => ?_)
          · replace h := it_p c_6 h
            refine gd_lload_n X d_Md_product_44 0 rfl ?_
            refine gd_l2i X d_Md_product_45 ?_
            cases h
            exact gd_iret X hr hlk d_Md_product_46
          · replace h := it_n c_6 h
            refine gd_ldc X (v := 1000001) (List.mem_cons_of_mem _ kc_Md_132) d_Md_product_39 ?_
            refine gd_goto X (tgt := 46) d_Md_product_41 (by decide) ?_
            cases h
            exact gd_iret X hr hlk d_Md_product_46
        · replace h := it_p c_4 h
          refine gd_bipush X (v := (-3)) d_Md_product_22 (by decide) ?_
          cases h
          exact gd_iret X hr hlk d_Md_product_24
    · replace h := it_p c_2 h
      refine gd_iconst X (v := 0) d_Md_product_8 (by decide) ?_
      cases h
      exact gd_iret X hr hlk d_Md_product_9
def m_Md_product (v0 v1 : Int32) : Option ((Int32)) := f_Md_product_0 v0 v1
set_option maxHeartbeats 4000000 in
set_option maxRecDepth 100000 in
theorem c_Md_product (l : Launch) (D : va_G) (K : Nat → ClassId) (v0 v1 : Int32) (r : Int32) (h : m_Md_product v0 v1 = some r) : SMet l y_Md_product w_Md_product rm_Md_product D classes (tyK K) [.int v0, .int v1] (some (.int r)) ([] : List va_W) ([] : List va_W) := by
  refine sm_of R_Md (by decide) rfl rfl (Nat.le_of_ble_eq_true rfl) ?_
  intro p e s m below meth c A X hr hlk
  refine gd_loc (lv' := [(0, .int v0), (1, .int v1)]) [0, 1] rfl ?_
  exact t_Md_product_0 X hr hlk r v0 v1 h
abbrev b_Md_isPlain : ByteArray := prog_10_method_21_code
def y_Md_isPlain : MethodName := ⟨R_Md, "isPlain", "(I)Z"⟩
def w_Md_isPlain : List Cond := .code y_Md_isPlain b_Md_isPlain 2 (some .boolean) :: TB
theorem k_Md_isPlain : Cond.code y_Md_isPlain b_Md_isPlain 2 (some .boolean) ∈ TB := tb_of 886 (by decide +kernel) (by decide +kernel)
theorem d_Md_isPlain_0 : decode b_Md_isPlain 0 = .ok (.aload_n 0, 1) := by decide +kernel
theorem d_Md_isPlain_1 : decode b_Md_isPlain 1 = .ok (.getfield 16, 3) := by decide +kernel
theorem d_Md_isPlain_4 : decode b_Md_isPlain 4 = .ok (.iload_n 1, 1) := by decide +kernel
theorem d_Md_isPlain_5 : decode b_Md_isPlain 5 = .ok (.iaload, 1) := by decide +kernel
theorem d_Md_isPlain_6 : decode b_Md_isPlain 6 = .ok (.iconst 1, 1) := by decide +kernel
theorem d_Md_isPlain_7 : decode b_Md_isPlain 7 = .ok (.if_icmp .ne 19, 3) := by decide +kernel
theorem d_Md_isPlain_10 : decode b_Md_isPlain 10 = .ok (.aload_n 0, 1) := by decide +kernel
theorem d_Md_isPlain_11 : decode b_Md_isPlain 11 = .ok (.getfield 19, 3) := by decide +kernel
theorem d_Md_isPlain_14 : decode b_Md_isPlain 14 = .ok (.bipush 8, 2) := by decide +kernel
theorem d_Md_isPlain_16 : decode b_Md_isPlain 16 = .ok (.iload_n 1, 1) := by decide +kernel
theorem d_Md_isPlain_17 : decode b_Md_isPlain 17 = .ok (.imul, 1) := by decide +kernel
theorem d_Md_isPlain_18 : decode b_Md_isPlain 18 = .ok (.iaload, 1) := by decide +kernel
theorem d_Md_isPlain_19 : decode b_Md_isPlain 19 = .ok (.ifCond .ge 7, 3) := by decide +kernel
theorem d_Md_isPlain_22 : decode b_Md_isPlain 22 = .ok (.iconst 1, 1) := by decide +kernel
theorem d_Md_isPlain_23 : decode b_Md_isPlain 23 = .ok (.goto 4, 3) := by decide +kernel
theorem d_Md_isPlain_26 : decode b_Md_isPlain 26 = .ok (.iconst 0, 1) := by decide +kernel
theorem d_Md_isPlain_27 : decode b_Md_isPlain 27 = .ok (.ireturn, 1) := by decide +kernel
abbrev rm_Md_isPlain : Room := { frames := 0, cells := 0, slots := 0, locals := 0 }
def f_Md_isPlain_0 (s_self : Nat → Nat → Int32) (v1 : Int32) : Option ((Int32)) :=
  ck v1 31 <|
  if (s_self 3 (Int32.toNatClampNeg v1)) = 1 then
    ck (8 * v1) 248 <|
    if 0 ≤ (s_self 4 (Int32.toNatClampNeg (8 * v1))) then
      some (0)
    else
      some (1)
  else
    some (0)
set_option maxHeartbeats 4000000 in
set_option maxRecDepth 100000 in
theorem t_Md_isPlain_0 {p : Program} {l : Launch} {e : Env} {s : State} {m : MethodId} {args : Array Value} {below : List Frame} {meth : Method} {c : Code} {A : Nat → Prop} {D : va_G} {K : Nat → ClassId} (a_self a_least : Nat → Nat) (X : gx p s m args c b_Md_isPlain 2 R_Md w_Md_isPlain D classes (tyK K) A) (hr : meth.sig.returnType = some .boolean) (hlk : meth.locks = false) (r : Int32) (s_self : Nat → Nat → Int32) (v1 : Int32) (h : f_Md_isPlain_0 s_self v1 = some r) : Gd p l e rm_Md_isPlain s m args below meth c 0 0 (MQ below (sq D classes (tyK K) (some (.int r)) [wd_Md K a_self (a_least 0) s_self] A) args s 0 0 A) D classes A 2 0 [wd_Md K a_self (a_least 0) s_self] [(0, .ref (a_self 0)), (1, .int v1)] [] := by
  unfold f_Md_isPlain_0 at h
  refine gd_aload_n X d_Md_isPlain_0 0 rfl ?_
  refine gd_get X (ci := 7) (C := R_Md) (T := F_Md) (N := 36) (v := .ref (a_self 3)) 0 0 rfl rfl rfl (in_Md _) 7 (by decide) (List.mem_cons_of_mem _ fl_Md_16) rfl rfl d_Md_isPlain_1 ?_
  refine gd_iload_n X d_Md_isPlain_4 1 rfl ?_
  obtain ⟨hi_1, h⟩ := ck_e h
  refine gd_iald X 0 3 0 rfl rfl rfl hi_1 d_Md_isPlain_5 ?_
  refine gd_iconst X (v := 1) d_Md_isPlain_6 (by decide) ?_
  refine gd_icmp_ne X (tgt := 26) d_Md_isPlain_7 (by decide) (fun c_2 => ?_) (fun c_2 => ?_)
  · replace h := it_n c_2 h
    refine gd_iconst X (v := 0) d_Md_isPlain_26 (by decide) ?_
    cases h
    exact gd_zret X hr hlk (by decide) d_Md_isPlain_27
  · replace h := it_p c_2 h
    refine gd_aload_n X d_Md_isPlain_10 0 rfl ?_
    refine gd_get X (ci := 7) (C := R_Md) (T := F_Md) (N := 36) (v := .ref (a_self 4)) 0 0 rfl rfl rfl (in_Md _) 8 (by decide) (List.mem_cons_of_mem _ fl_Md_19) rfl rfl d_Md_isPlain_11 ?_
    refine gd_bipush X (v := 8) d_Md_isPlain_14 (by decide) ?_
    refine gd_iload_n X d_Md_isPlain_16 1 rfl ?_
    refine gd_imul X d_Md_isPlain_17 ?_
    obtain ⟨hi_3, h⟩ := ck_e h
    refine gd_iald X 0 4 0 rfl rfl rfl hi_3 d_Md_isPlain_18 ?_
    refine gd_if_ge X (tgt := 26) d_Md_isPlain_19 (by decide) (fun c_4 => ?_) (fun c_4 => ?_)
    · replace h := it_p c_4 h
      refine gd_iconst X (v := 0) d_Md_isPlain_26 (by decide) ?_
      cases h
      exact gd_zret X hr hlk (by decide) d_Md_isPlain_27
    · replace h := it_n c_4 h
      refine gd_iconst X (v := 1) d_Md_isPlain_22 (by decide) ?_
      refine gd_goto X (tgt := 27) d_Md_isPlain_23 (by decide) ?_
      cases h
      exact gd_zret X hr hlk (by decide) d_Md_isPlain_27
def m_Md_isPlain (s_self : Nat → Nat → Int32) (v1 : Int32) : Option ((Int32)) := f_Md_isPlain_0 s_self v1
set_option maxHeartbeats 4000000 in
set_option maxRecDepth 100000 in
theorem c_Md_isPlain (l : Launch) (D : va_G) (K : Nat → ClassId) (a_self a_least : Nat → Nat) (s_self : Nat → Nat → Int32) (v1 : Int32) (r : Int32) (h : m_Md_isPlain s_self v1 = some r) : SMet l y_Md_isPlain w_Md_isPlain rm_Md_isPlain D classes (tyK K) [.ref (a_self 0), .int v1] (some (.int r)) [wd_Md K a_self (a_least 0) s_self] [wd_Md K a_self (a_least 0) s_self] := by
  refine sm_of R_Md (by decide) rfl rfl (Nat.le_of_ble_eq_true rfl) ?_
  intro p e s m below meth c A X hr hlk
  refine gd_loc (lv' := [(0, .ref (a_self 0)), (1, .int v1)]) [0, 1] rfl ?_
  exact t_Md_isPlain_0 a_self a_least X hr hlk r s_self v1 h
abbrev b_Md_variableAt : ByteArray := prog_10_method_22_code
def y_Md_variableAt : MethodName := ⟨R_Md, "variableAt", "(II)I"⟩
def w_Md_variableAt : List Cond := .code y_Md_variableAt b_Md_variableAt 6 (some .int) :: TB
theorem k_Md_variableAt : Cond.code y_Md_variableAt b_Md_variableAt 6 (some .int) ∈ TB := tb_of 917 (by decide +kernel) (by decide +kernel)
theorem d_Md_variableAt_0 : decode b_Md_variableAt 0 = .ok (.iconst (-1), 1) := by decide +kernel
theorem d_Md_variableAt_1 : decode b_Md_variableAt 1 = .ok (.istore_n 3, 1) := by decide +kernel
theorem d_Md_variableAt_2 : decode b_Md_variableAt 2 = .ok (.iconst 0, 1) := by decide +kernel
theorem d_Md_variableAt_3 : decode b_Md_variableAt 3 = .ok (.istore 4, 2) := by decide +kernel
theorem d_Md_variableAt_5 : decode b_Md_variableAt 5 = .ok (.iconst 0, 1) := by decide +kernel
theorem d_Md_variableAt_6 : decode b_Md_variableAt 6 = .ok (.istore 5, 2) := by decide +kernel
theorem d_Md_variableAt_8 : decode b_Md_variableAt 8 = .ok (.iload 5, 2) := by decide +kernel
theorem d_Md_variableAt_10 : decode b_Md_variableAt 10 = .ok (.aload_n 0, 1) := by decide +kernel
theorem d_Md_variableAt_11 : decode b_Md_variableAt 11 = .ok (.getfield 16, 3) := by decide +kernel
theorem d_Md_variableAt_14 : decode b_Md_variableAt 14 = .ok (.iload_n 1, 1) := by decide +kernel
theorem d_Md_variableAt_15 : decode b_Md_variableAt 15 = .ok (.iaload, 1) := by decide +kernel
theorem d_Md_variableAt_16 : decode b_Md_variableAt 16 = .ok (.if_icmp .ge 71, 3) := by decide +kernel
theorem d_Md_variableAt_19 : decode b_Md_variableAt 19 = .ok (.aload_n 0, 1) := by decide +kernel
theorem d_Md_variableAt_20 : decode b_Md_variableAt 20 = .ok (.getfield 19, 3) := by decide +kernel
theorem d_Md_variableAt_23 : decode b_Md_variableAt 23 = .ok (.bipush 8, 2) := by decide +kernel
theorem d_Md_variableAt_25 : decode b_Md_variableAt 25 = .ok (.iload_n 1, 1) := by decide +kernel
theorem d_Md_variableAt_26 : decode b_Md_variableAt 26 = .ok (.imul, 1) := by decide +kernel
theorem d_Md_variableAt_27 : decode b_Md_variableAt 27 = .ok (.iload 5, 2) := by decide +kernel
theorem d_Md_variableAt_29 : decode b_Md_variableAt 29 = .ok (.iadd, 1) := by decide +kernel
theorem d_Md_variableAt_30 : decode b_Md_variableAt 30 = .ok (.iaload, 1) := by decide +kernel
theorem d_Md_variableAt_31 : decode b_Md_variableAt 31 = .ok (.ifCond .ge 9, 3) := by decide +kernel
theorem d_Md_variableAt_34 : decode b_Md_variableAt 34 = .ok (.iload_n 3, 1) := by decide +kernel
theorem d_Md_variableAt_35 : decode b_Md_variableAt 35 = .ok (.iconst 1, 1) := by decide +kernel
theorem d_Md_variableAt_36 : decode b_Md_variableAt 36 = .ok (.iadd, 1) := by decide +kernel
theorem d_Md_variableAt_37 : decode b_Md_variableAt 37 = .ok (.goto 4, 3) := by decide +kernel
theorem d_Md_variableAt_40 : decode b_Md_variableAt 40 = .ok (.iload_n 3, 1) := by decide +kernel
theorem d_Md_variableAt_41 : decode b_Md_variableAt 41 = .ok (.istore_n 3, 1) := by decide +kernel
theorem d_Md_variableAt_42 : decode b_Md_variableAt 42 = .ok (.aload_n 0, 1) := by decide +kernel
theorem d_Md_variableAt_43 : decode b_Md_variableAt 43 = .ok (.getfield 19, 3) := by decide +kernel
theorem d_Md_variableAt_46 : decode b_Md_variableAt 46 = .ok (.bipush 8, 2) := by decide +kernel
theorem d_Md_variableAt_48 : decode b_Md_variableAt 48 = .ok (.iload_n 1, 1) := by decide +kernel
theorem d_Md_variableAt_49 : decode b_Md_variableAt 49 = .ok (.imul, 1) := by decide +kernel
theorem d_Md_variableAt_50 : decode b_Md_variableAt 50 = .ok (.iload 5, 2) := by decide +kernel
theorem d_Md_variableAt_52 : decode b_Md_variableAt 52 = .ok (.iadd, 1) := by decide +kernel
theorem d_Md_variableAt_53 : decode b_Md_variableAt 53 = .ok (.iaload, 1) := by decide +kernel
theorem d_Md_variableAt_54 : decode b_Md_variableAt 54 = .ok (.ifCond .ge 23, 3) := by decide +kernel
theorem d_Md_variableAt_57 : decode b_Md_variableAt 57 = .ok (.iload_n 3, 1) := by decide +kernel
theorem d_Md_variableAt_58 : decode b_Md_variableAt 58 = .ok (.iload_n 2, 1) := by decide +kernel
theorem d_Md_variableAt_59 : decode b_Md_variableAt 59 = .ok (.if_icmp .ne 18, 3) := by decide +kernel
theorem d_Md_variableAt_62 : decode b_Md_variableAt 62 = .ok (.aload_n 0, 1) := by decide +kernel
theorem d_Md_variableAt_63 : decode b_Md_variableAt 63 = .ok (.getfield 19, 3) := by decide +kernel
theorem d_Md_variableAt_66 : decode b_Md_variableAt 66 = .ok (.bipush 8, 2) := by decide +kernel
theorem d_Md_variableAt_68 : decode b_Md_variableAt 68 = .ok (.iload_n 1, 1) := by decide +kernel
theorem d_Md_variableAt_69 : decode b_Md_variableAt 69 = .ok (.imul, 1) := by decide +kernel
theorem d_Md_variableAt_70 : decode b_Md_variableAt 70 = .ok (.iload 5, 2) := by decide +kernel
theorem d_Md_variableAt_72 : decode b_Md_variableAt 72 = .ok (.iadd, 1) := by decide +kernel
theorem d_Md_variableAt_73 : decode b_Md_variableAt 73 = .ok (.iaload, 1) := by decide +kernel
theorem d_Md_variableAt_74 : decode b_Md_variableAt 74 = .ok (.goto 5, 3) := by decide +kernel
theorem d_Md_variableAt_77 : decode b_Md_variableAt 77 = .ok (.iload 4, 2) := by decide +kernel
theorem d_Md_variableAt_79 : decode b_Md_variableAt 79 = .ok (.istore 4, 2) := by decide +kernel
theorem d_Md_variableAt_81 : decode b_Md_variableAt 81 = .ok (.iinc 5 1, 3) := by decide +kernel
theorem d_Md_variableAt_84 : decode b_Md_variableAt 84 = .ok (.goto (-76), 3) := by decide +kernel
theorem d_Md_variableAt_87 : decode b_Md_variableAt 87 = .ok (.iload 4, 2) := by decide +kernel
theorem d_Md_variableAt_89 : decode b_Md_variableAt 89 = .ok (.ireturn, 1) := by decide +kernel
abbrev rm_Md_variableAt : Room := { frames := 0, cells := 0, slots := 0, locals := 0 }
def f_Md_variableAt_41 (N : Nat) (kb : Int32 → Int32 → Int32 → Option ((Int32))) (kx87 : Int32 → Option ((Int32))) (s_self : Nat → Nat → Int32) (v1 v2 v4 v5 : Int32) (k0 : Int32) : Option ((Int32)) :=
  ck ((8 * v1) + v5) 248 <|
  if 0 ≤ (s_self 4 (Int32.toNatClampNeg ((8 * v1) + v5))) then
    nm (v5 + 1) fun v5_3 =>
    kb k0 v4 v5_3
  else
    if k0 = v2 then
      ck ((8 * v1) + v5) 248 <|
      nm (s_self 4 (Int32.toNatClampNeg ((8 * v1) + v5))) fun v4_7 =>
      nm (v5 + 1) fun v5_8 =>
      kb k0 v4_7 v5_8
    else
      nm (v5 + 1) fun v5_5 =>
      kb k0 v4 v5_5
set_option maxHeartbeats 4000000 in
set_option maxRecDepth 100000 in
theorem t_Md_variableAt_41 {p : Program} {l : Launch} {e : Env} {s : State} {m : MethodId} {args : Array Value} {below : List Frame} {meth : Method} {c : Code} {A : Nat → Prop} {D : va_G} {K : Nat → ClassId} (a_self a_least : Nat → Nat) (X : gx p s m args c b_Md_variableAt 6 R_Md w_Md_variableAt D classes (tyK K) A) (hr : meth.sig.returnType = some .int) (hlk : meth.locks = false) (N : Nat) (r : Int32) (s_self : Nat → Nat → Int32) (v1 v2 v4 v5 : Int32) (k0 : Int32) (kb : Int32 → Int32 → Int32 → Option ((Int32))) (hkb : ∀ (v3 v4 v5 : Int32), kb v3 v4 v5 = some r → Gd p l e rm_Md_variableAt s m args below meth c 0 0 (MQ below (sq D classes (tyK K) (some (.int r)) [wd_Md K a_self (a_least 0) s_self] A) args s 0 0 A) D classes A 6 8 [wd_Md K a_self (a_least 0) s_self] [(0, .ref (a_self 0)), (1, .int v1), (2, .int v2), (3, .int v3), (4, .int v4), (5, .int v5)] []) (kx87 : Int32 → Option ((Int32))) (hkx87 : ∀ (v4 : Int32), kx87 v4 = some r → Gd p l e rm_Md_variableAt s m args below meth c 0 0 (MQ below (sq D classes (tyK K) (some (.int r)) [wd_Md K a_self (a_least 0) s_self] A) args s 0 0 A) D classes A 6 87 [wd_Md K a_self (a_least 0) s_self] [(4, .int v4)] []) (h : f_Md_variableAt_41 N kb kx87 s_self v1 v2 v4 v5 k0 = some r) : Gd p l e rm_Md_variableAt s m args below meth c 0 0 (MQ below (sq D classes (tyK K) (some (.int r)) [wd_Md K a_self (a_least 0) s_self] A) args s 0 0 A) D classes A 6 41 [wd_Md K a_self (a_least 0) s_self] [(0, .ref (a_self 0)), (1, .int v1), (2, .int v2), (4, .int v4), (5, .int v5)] [.int k0] := by
  unfold f_Md_variableAt_41 at h
  refine gd_istore_n X (lv' := [(3, .int k0), (0, .ref (a_self 0)), (1, .int v1), (2, .int v2), (4, .int v4), (5, .int v5)]) d_Md_variableAt_41 rfl (by decide) rfl ?_
  refine gd_aload_n X d_Md_variableAt_42 1 rfl ?_
  refine gd_get X (ci := 7) (C := R_Md) (T := F_Md) (N := 36) (v := .ref (a_self 4)) 0 0 rfl rfl rfl (in_Md _) 8 (by decide) (List.mem_cons_of_mem _ fl_Md_19) rfl rfl d_Md_variableAt_43 ?_
  refine gd_bipush X (v := 8) d_Md_variableAt_46 (by decide) ?_
  refine gd_iload_n X d_Md_variableAt_48 2 rfl ?_
  refine gd_imul X d_Md_variableAt_49 ?_
  refine gd_iload X d_Md_variableAt_50 5 rfl ?_
  refine gd_iadd X d_Md_variableAt_52 ?_
  obtain ⟨hi_1, h⟩ := ck_e h
  refine gd_iald X 0 4 0 rfl rfl rfl hi_1 d_Md_variableAt_53 ?_
  refine gd_if_ge X (tgt := 77) d_Md_variableAt_54 (by decide) (fun c_2 => ?_) (fun c_2 => ?_)
  · replace h := it_p c_2 h
    refine gd_iload X d_Md_variableAt_77 4 rfl ?_
    refine gd_istore X (lv' := [(4, .int v4), (3, .int k0), (0, .ref (a_self 0)), (1, .int v1), (2, .int v2), (5, .int v5)]) d_Md_variableAt_79 (by decide) rfl ?_
    obtain ⟨v5_3, ev5_3, h⟩ := nm_e' h
    refine gd_iinc X (v := v5_3) (lv' := [(5, .int v5_3), (4, .int v4), (3, .int k0), (0, .ref (a_self 0)), (1, .int v1), (2, .int v2)]) d_Md_variableAt_81 (k := 5) rfl (by rw [ev5_3]; rfl) (by decide) rfl ?_
    refine gd_goto X (tgt := 8) d_Md_variableAt_84 (by decide) ?_
    refine gd_loc (lv' := [(0, .ref (a_self 0)), (1, .int v1), (2, .int v2), (3, .int k0), (4, .int v4), (5, .int v5_3)]) [3, 4, 5, 2, 1, 0] rfl ?_
    exact hkb k0 v4 v5_3 h
  · replace h := it_n c_2 h
    refine gd_iload_n X d_Md_variableAt_57 0 rfl ?_
    refine gd_iload_n X d_Md_variableAt_58 3 rfl ?_
    refine gd_icmp_ne X (tgt := 77) d_Md_variableAt_59 (by decide) (fun c_4 => ?_) (fun c_4 => ?_)
    · replace h := it_n c_4 h
      refine gd_iload X d_Md_variableAt_77 4 rfl ?_
      refine gd_istore X (lv' := [(4, .int v4), (3, .int k0), (0, .ref (a_self 0)), (1, .int v1), (2, .int v2), (5, .int v5)]) d_Md_variableAt_79 (by decide) rfl ?_
      obtain ⟨v5_5, ev5_5, h⟩ := nm_e' h
      refine gd_iinc X (v := v5_5) (lv' := [(5, .int v5_5), (4, .int v4), (3, .int k0), (0, .ref (a_self 0)), (1, .int v1), (2, .int v2)]) d_Md_variableAt_81 (k := 5) rfl (by rw [ev5_5]; rfl) (by decide) rfl ?_
      refine gd_goto X (tgt := 8) d_Md_variableAt_84 (by decide) ?_
      refine gd_loc (lv' := [(0, .ref (a_self 0)), (1, .int v1), (2, .int v2), (3, .int k0), (4, .int v4), (5, .int v5_5)]) [3, 4, 5, 2, 1, 0] rfl ?_
      exact hkb k0 v4 v5_5 h
    · replace h := it_p c_4 h
      refine gd_aload_n X d_Md_variableAt_62 1 rfl ?_
      refine gd_get X (ci := 7) (C := R_Md) (T := F_Md) (N := 36) (v := .ref (a_self 4)) 0 0 rfl rfl rfl (in_Md _) 8 (by decide) (List.mem_cons_of_mem _ fl_Md_19) rfl rfl d_Md_variableAt_63 ?_
      refine gd_bipush X (v := 8) d_Md_variableAt_66 (by decide) ?_
      refine gd_iload_n X d_Md_variableAt_68 2 rfl ?_
      refine gd_imul X d_Md_variableAt_69 ?_
      refine gd_iload X d_Md_variableAt_70 5 rfl ?_
      refine gd_iadd X d_Md_variableAt_72 ?_
      obtain ⟨hi_6, h⟩ := ck_e h
      refine gd_iald X 0 4 0 rfl rfl rfl hi_6 d_Md_variableAt_73 ?_
      refine gd_goto X (tgt := 79) d_Md_variableAt_74 (by decide) ?_
      obtain ⟨v4_7, ev4_7, h⟩ := nm_e' h
      refine gd_topi ev4_7 ?_
      refine gd_istore X (lv' := [(4, .int v4_7), (3, .int k0), (0, .ref (a_self 0)), (1, .int v1), (2, .int v2), (5, .int v5)]) d_Md_variableAt_79 (by decide) rfl ?_
      obtain ⟨v5_8, ev5_8, h⟩ := nm_e' h
      refine gd_iinc X (v := v5_8) (lv' := [(5, .int v5_8), (4, .int v4_7), (3, .int k0), (0, .ref (a_self 0)), (1, .int v1), (2, .int v2)]) d_Md_variableAt_81 (k := 5) rfl (by rw [ev5_8]; rfl) (by decide) rfl ?_
      refine gd_goto X (tgt := 8) d_Md_variableAt_84 (by decide) ?_
      refine gd_loc (lv' := [(0, .ref (a_self 0)), (1, .int v1), (2, .int v2), (3, .int k0), (4, .int v4_7), (5, .int v5_8)]) [3, 4, 5, 2, 1, 0] rfl ?_
      exact hkb k0 v4_7 v5_8 h
def f_Md_variableAt_8 (N : Nat) (kb : Int32 → Int32 → Int32 → Option ((Int32))) (kx87 : Int32 → Option ((Int32))) (s_self : Nat → Nat → Int32) (v1 v2 v3 v4 v5 : Int32) : Option ((Int32)) :=
  ck v1 31 <|
  if (s_self 3 (Int32.toNatClampNeg v1)) ≤ v5 then
    kx87 v4
  else
    ck ((8 * v1) + v5) 248 <|
    if 0 ≤ (s_self 4 (Int32.toNatClampNeg ((8 * v1) + v5))) then
      f_Md_variableAt_41 N kb kx87 s_self v1 v2 v4 v5 v3
    else
      f_Md_variableAt_41 N kb kx87 s_self v1 v2 v4 v5 (v3 + 1)
set_option maxHeartbeats 4000000 in
set_option maxRecDepth 100000 in
theorem t_Md_variableAt_8 {p : Program} {l : Launch} {e : Env} {s : State} {m : MethodId} {args : Array Value} {below : List Frame} {meth : Method} {c : Code} {A : Nat → Prop} {D : va_G} {K : Nat → ClassId} (a_self a_least : Nat → Nat) (X : gx p s m args c b_Md_variableAt 6 R_Md w_Md_variableAt D classes (tyK K) A) (hr : meth.sig.returnType = some .int) (hlk : meth.locks = false) (N : Nat) (r : Int32) (s_self : Nat → Nat → Int32) (v1 v2 v3 v4 v5 : Int32) (kb : Int32 → Int32 → Int32 → Option ((Int32))) (hkb : ∀ (v3 v4 v5 : Int32), kb v3 v4 v5 = some r → Gd p l e rm_Md_variableAt s m args below meth c 0 0 (MQ below (sq D classes (tyK K) (some (.int r)) [wd_Md K a_self (a_least 0) s_self] A) args s 0 0 A) D classes A 6 8 [wd_Md K a_self (a_least 0) s_self] [(0, .ref (a_self 0)), (1, .int v1), (2, .int v2), (3, .int v3), (4, .int v4), (5, .int v5)] []) (kx87 : Int32 → Option ((Int32))) (hkx87 : ∀ (v4 : Int32), kx87 v4 = some r → Gd p l e rm_Md_variableAt s m args below meth c 0 0 (MQ below (sq D classes (tyK K) (some (.int r)) [wd_Md K a_self (a_least 0) s_self] A) args s 0 0 A) D classes A 6 87 [wd_Md K a_self (a_least 0) s_self] [(4, .int v4)] []) (h : f_Md_variableAt_8 N kb kx87 s_self v1 v2 v3 v4 v5 = some r) : Gd p l e rm_Md_variableAt s m args below meth c 0 0 (MQ below (sq D classes (tyK K) (some (.int r)) [wd_Md K a_self (a_least 0) s_self] A) args s 0 0 A) D classes A 6 8 [wd_Md K a_self (a_least 0) s_self] [(0, .ref (a_self 0)), (1, .int v1), (2, .int v2), (3, .int v3), (4, .int v4), (5, .int v5)] [] := by
  unfold f_Md_variableAt_8 at h
  refine gd_iload X d_Md_variableAt_8 5 rfl ?_
  refine gd_aload_n X d_Md_variableAt_10 0 rfl ?_
  refine gd_get X (ci := 7) (C := R_Md) (T := F_Md) (N := 36) (v := .ref (a_self 3)) 0 0 rfl rfl rfl (in_Md _) 7 (by decide) (List.mem_cons_of_mem _ fl_Md_16) rfl rfl d_Md_variableAt_11 ?_
  refine gd_iload_n X d_Md_variableAt_14 1 rfl ?_
  obtain ⟨hi_1, h⟩ := ck_e h
  refine gd_iald X 0 3 0 rfl rfl rfl hi_1 d_Md_variableAt_15 ?_
  refine gd_icmp_ge X (tgt := 87) d_Md_variableAt_16 (by decide) (fun c_2 => ?_) (fun c_2 => ?_)
  · replace h := it_p c_2 h
    refine gd_loc (lv' := [(4, .int v4)]) [4] rfl ?_
    exact hkx87 v4 h
  · replace h := it_n c_2 h
    refine gd_aload_n X d_Md_variableAt_19 0 rfl ?_
    refine gd_get X (ci := 7) (C := R_Md) (T := F_Md) (N := 36) (v := .ref (a_self 4)) 0 0 rfl rfl rfl (in_Md _) 8 (by decide) (List.mem_cons_of_mem _ fl_Md_19) rfl rfl d_Md_variableAt_20 ?_
    refine gd_bipush X (v := 8) d_Md_variableAt_23 (by decide) ?_
    refine gd_iload_n X d_Md_variableAt_25 1 rfl ?_
    refine gd_imul X d_Md_variableAt_26 ?_
    refine gd_iload X d_Md_variableAt_27 5 rfl ?_
    refine gd_iadd X d_Md_variableAt_29 ?_
    obtain ⟨hi_3, h⟩ := ck_e h
    refine gd_iald X 0 4 0 rfl rfl rfl hi_3 d_Md_variableAt_30 ?_
    refine gd_if_ge X (tgt := 40) d_Md_variableAt_31 (by decide) (fun c_4 => ?_) (fun c_4 => ?_)
    · replace h := it_p c_4 h
      refine gd_iload_n X d_Md_variableAt_40 3 rfl ?_
      refine gd_loc (lv' := [(0, .ref (a_self 0)), (1, .int v1), (2, .int v2), (4, .int v4), (5, .int v5)]) [0, 1, 2, 4, 5] rfl ?_
      exact t_Md_variableAt_41 a_self a_least X hr hlk N r s_self v1 v2 v4 v5 v3 kb hkb kx87 hkx87 h
    · replace h := it_n c_4 h
      refine gd_iload_n X d_Md_variableAt_34 3 rfl ?_
      refine gd_iconst X (v := 1) d_Md_variableAt_35 (by decide) ?_
      refine gd_iadd X d_Md_variableAt_36 ?_
      refine gd_goto X (tgt := 41) d_Md_variableAt_37 (by decide) ?_
      refine gd_loc (lv' := [(0, .ref (a_self 0)), (1, .int v1), (2, .int v2), (4, .int v4), (5, .int v5)]) [0, 1, 2, 4, 5] rfl ?_
      exact t_Md_variableAt_41 a_self a_least X hr hlk N r s_self v1 v2 v4 v5 (v3 + 1) kb hkb kx87 hkx87 h
def f_Md_variableAt_87 (N : Nat) (s_self : Nat → Nat → Int32) (v4 : Int32) : Option ((Int32)) :=
  some (v4)
set_option maxHeartbeats 4000000 in
set_option maxRecDepth 100000 in
theorem t_Md_variableAt_87 {p : Program} {l : Launch} {e : Env} {s : State} {m : MethodId} {args : Array Value} {below : List Frame} {meth : Method} {c : Code} {A : Nat → Prop} {D : va_G} {K : Nat → ClassId} (a_self a_least : Nat → Nat) (X : gx p s m args c b_Md_variableAt 6 R_Md w_Md_variableAt D classes (tyK K) A) (hr : meth.sig.returnType = some .int) (hlk : meth.locks = false) (N : Nat) (r : Int32) (s_self : Nat → Nat → Int32) (v4 : Int32) (h : f_Md_variableAt_87 N s_self v4 = some r) : Gd p l e rm_Md_variableAt s m args below meth c 0 0 (MQ below (sq D classes (tyK K) (some (.int r)) [wd_Md K a_self (a_least 0) s_self] A) args s 0 0 A) D classes A 6 87 [wd_Md K a_self (a_least 0) s_self] [(4, .int v4)] [] := by
  unfold f_Md_variableAt_87 at h
  refine gd_iload X d_Md_variableAt_87 0 rfl ?_
  cases h
  exact gd_iret X hr hlk d_Md_variableAt_89
def l_Md_variableAt_8 (N : Nat) (s_self : Nat → Nat → Int32) (v1 v2 : Int32) (kx87 : Int32 → Option ((Int32))) : Nat → Int32 → Int32 → Int32 → Option ((Int32))
  | 0, _, _, _ => none
  | n + 1, v3, v4, v5 => f_Md_variableAt_8 N (l_Md_variableAt_8 N s_self v1 v2 kx87 n) kx87 s_self v1 v2 v3 v4 v5
set_option maxHeartbeats 4000000 in
set_option maxRecDepth 100000 in
theorem tl_Md_variableAt_8 {p : Program} {l : Launch} {e : Env} {s : State} {m : MethodId} {args : Array Value} {below : List Frame} {meth : Method} {c : Code} {A : Nat → Prop} {D : va_G} {K : Nat → ClassId} (a_self a_least : Nat → Nat) (X : gx p s m args c b_Md_variableAt 6 R_Md w_Md_variableAt D classes (tyK K) A) (hr : meth.sig.returnType = some .int) (hlk : meth.locks = false) (N : Nat) (r : Int32) (s_self : Nat → Nat → Int32) (v1 v2 : Int32) (kx87 : Int32 → Option ((Int32))) (hkx87 : ∀ (v4 : Int32), kx87 v4 = some r → Gd p l e rm_Md_variableAt s m args below meth c 0 0 (MQ below (sq D classes (tyK K) (some (.int r)) [wd_Md K a_self (a_least 0) s_self] A) args s 0 0 A) D classes A 6 87 [wd_Md K a_self (a_least 0) s_self] [(4, .int v4)] []) : ∀ (n : Nat) (v3 v4 v5 : Int32), l_Md_variableAt_8 N s_self v1 v2 kx87 n v3 v4 v5 = some r → Gd p l e rm_Md_variableAt s m args below meth c 0 0 (MQ below (sq D classes (tyK K) (some (.int r)) [wd_Md K a_self (a_least 0) s_self] A) args s 0 0 A) D classes A 6 8 [wd_Md K a_self (a_least 0) s_self] [(0, .ref (a_self 0)), (1, .int v1), (2, .int v2), (3, .int v3), (4, .int v4), (5, .int v5)] [] := by
  intro n
  induction n with
  | zero => intro v3 v4 v5 h; have h : (none : Option ((Int32))) = some _ := h; cases h
  | succ n ih =>
    intro v3 v4 v5 h
    exact t_Md_variableAt_8 a_self a_least X hr hlk N r s_self v1 v2 v3 v4 v5 (l_Md_variableAt_8 N s_self v1 v2 kx87 n) ih kx87 hkx87 h
def f_Md_variableAt_0 (N : Nat) (s_self : Nat → Nat → Int32) (v1 v2 : Int32) : Option ((Int32)) :=
  l_Md_variableAt_8 N s_self v1 v2 (fun v4 => f_Md_variableAt_87 N s_self v4) N (-1) 0 0
set_option maxHeartbeats 4000000 in
set_option maxRecDepth 100000 in
theorem t_Md_variableAt_0 {p : Program} {l : Launch} {e : Env} {s : State} {m : MethodId} {args : Array Value} {below : List Frame} {meth : Method} {c : Code} {A : Nat → Prop} {D : va_G} {K : Nat → ClassId} (a_self a_least : Nat → Nat) (X : gx p s m args c b_Md_variableAt 6 R_Md w_Md_variableAt D classes (tyK K) A) (hr : meth.sig.returnType = some .int) (hlk : meth.locks = false) (N : Nat) (r : Int32) (s_self : Nat → Nat → Int32) (v1 v2 : Int32) (h : f_Md_variableAt_0 N s_self v1 v2 = some r) : Gd p l e rm_Md_variableAt s m args below meth c 0 0 (MQ below (sq D classes (tyK K) (some (.int r)) [wd_Md K a_self (a_least 0) s_self] A) args s 0 0 A) D classes A 6 0 [wd_Md K a_self (a_least 0) s_self] [(0, .ref (a_self 0)), (1, .int v1), (2, .int v2)] [] := by
  unfold f_Md_variableAt_0 at h
  refine gd_iconst X (v := (-1)) d_Md_variableAt_0 (by decide) ?_
  refine gd_istore_n X (lv' := [(3, .int (-1)), (0, .ref (a_self 0)), (1, .int v1), (2, .int v2)]) d_Md_variableAt_1 rfl (by decide) rfl ?_
  refine gd_iconst X (v := 0) d_Md_variableAt_2 (by decide) ?_
  refine gd_istore X (lv' := [(4, .int 0), (3, .int (-1)), (0, .ref (a_self 0)), (1, .int v1), (2, .int v2)]) d_Md_variableAt_3 (by decide) rfl ?_
  refine gd_iconst X (v := 0) d_Md_variableAt_5 (by decide) ?_
  refine gd_istore X (lv' := [(5, .int 0), (4, .int 0), (3, .int (-1)), (0, .ref (a_self 0)), (1, .int v1), (2, .int v2)]) d_Md_variableAt_6 (by decide) rfl ?_
  refine gd_loc (lv' := [(0, .ref (a_self 0)), (1, .int v1), (2, .int v2), (3, .int (-1)), (4, .int 0), (5, .int 0)]) [3, 4, 5, 2, 1, 0] rfl ?_
  exact tl_Md_variableAt_8 a_self a_least X hr hlk N r s_self v1 v2 (fun v4 => f_Md_variableAt_87 N s_self v4) (fun v4 h => t_Md_variableAt_87 a_self a_least X hr hlk N r s_self v4 h) N (-1) 0 0 h
def m_Md_variableAt (N : Nat) (s_self : Nat → Nat → Int32) (v1 v2 : Int32) : Option ((Int32)) := f_Md_variableAt_0 N s_self v1 v2
set_option maxHeartbeats 4000000 in
set_option maxRecDepth 100000 in
theorem c_Md_variableAt (l : Launch) (D : va_G) (K : Nat → ClassId) (a_self a_least : Nat → Nat) (N : Nat) (s_self : Nat → Nat → Int32) (v1 v2 : Int32) (r : Int32) (h : m_Md_variableAt N s_self v1 v2 = some r) : SMet l y_Md_variableAt w_Md_variableAt rm_Md_variableAt D classes (tyK K) [.ref (a_self 0), .int v1, .int v2] (some (.int r)) [wd_Md K a_self (a_least 0) s_self] [wd_Md K a_self (a_least 0) s_self] := by
  refine sm_of R_Md (by decide) rfl rfl (Nat.le_of_ble_eq_true rfl) ?_
  intro p e s m below meth c A X hr hlk
  refine gd_loc (lv' := [(0, .ref (a_self 0)), (1, .int v1), (2, .int v2)]) [0, 1, 2] rfl ?_
  exact t_Md_variableAt_0 a_self a_least X hr hlk N r s_self v1 v2 h
