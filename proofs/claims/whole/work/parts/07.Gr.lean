abbrev b_Gr_addVariable : ByteArray := prog_3_method_15_code
def y_Gr_addVariable : MethodName := ⟨R_Gr, "addVariable", "(I)I"⟩
def w_Gr_addVariable : List Cond := .code y_Gr_addVariable b_Gr_addVariable 2 (some .int) :: TB
theorem k_Gr_addVariable : Cond.code y_Gr_addVariable b_Gr_addVariable 2 (some .int) ∈ TB := tb_of 304 (by decide +kernel) (by decide +kernel)
theorem d_Gr_addVariable_0 : decode b_Gr_addVariable 0 = .ok (.aload_n 0, 1) := by decide +kernel
theorem d_Gr_addVariable_1 : decode b_Gr_addVariable 1 = .ok (.iload_n 1, 1) := by decide +kernel
theorem d_Gr_addVariable_2 : decode b_Gr_addVariable 2 = .ok (.invokevirtual 61, 3) := by decide +kernel
theorem d_Gr_addVariable_5 : decode b_Gr_addVariable 5 = .ok (.ifCond .eq 12, 3) := by decide +kernel
theorem d_Gr_addVariable_8 : decode b_Gr_addVariable 8 = .ok (.aload_n 0, 1) := by decide +kernel
theorem d_Gr_addVariable_9 : decode b_Gr_addVariable 9 = .ok (.getfield 40, 3) := by decide +kernel
theorem d_Gr_addVariable_12 : decode b_Gr_addVariable 12 = .ok (.bipush 20, 2) := by decide +kernel
theorem d_Gr_addVariable_14 : decode b_Gr_addVariable 14 = .ok (.if_icmp .lt 5, 3) := by decide +kernel
theorem d_Gr_addVariable_17 : decode b_Gr_addVariable 17 = .ok (.iconst (-1), 1) := by decide +kernel
theorem d_Gr_addVariable_18 : decode b_Gr_addVariable 18 = .ok (.ireturn, 1) := by decide +kernel
theorem d_Gr_addVariable_19 : decode b_Gr_addVariable 19 = .ok (.aload_n 0, 1) := by decide +kernel
theorem d_Gr_addVariable_20 : decode b_Gr_addVariable 20 = .ok (.getfield 9, 3) := by decide +kernel
theorem d_Gr_addVariable_23 : decode b_Gr_addVariable 23 = .ok (.aload_n 0, 1) := by decide +kernel
theorem d_Gr_addVariable_24 : decode b_Gr_addVariable 24 = .ok (.getfield 40, 3) := by decide +kernel
theorem d_Gr_addVariable_27 : decode b_Gr_addVariable 27 = .ok (.iload_n 1, 1) := by decide +kernel
theorem d_Gr_addVariable_28 : decode b_Gr_addVariable 28 = .ok (.iastore, 1) := by decide +kernel
theorem d_Gr_addVariable_29 : decode b_Gr_addVariable 29 = .ok (.aload_n 0, 1) := by decide +kernel
theorem d_Gr_addVariable_30 : decode b_Gr_addVariable 30 = .ok (.dup, 1) := by decide +kernel
theorem d_Gr_addVariable_31 : decode b_Gr_addVariable 31 = .ok (.getfield 40, 3) := by decide +kernel
theorem d_Gr_addVariable_34 : decode b_Gr_addVariable 34 = .ok (.iconst 1, 1) := by decide +kernel
theorem d_Gr_addVariable_35 : decode b_Gr_addVariable 35 = .ok (.iadd, 1) := by decide +kernel
theorem d_Gr_addVariable_36 : decode b_Gr_addVariable 36 = .ok (.putfield 40, 3) := by decide +kernel
theorem d_Gr_addVariable_39 : decode b_Gr_addVariable 39 = .ok (.aload_n 0, 1) := by decide +kernel
theorem d_Gr_addVariable_40 : decode b_Gr_addVariable 40 = .ok (.getfield 40, 3) := by decide +kernel
theorem d_Gr_addVariable_43 : decode b_Gr_addVariable 43 = .ok (.iconst 1, 1) := by decide +kernel
theorem d_Gr_addVariable_44 : decode b_Gr_addVariable 44 = .ok (.isub, 1) := by decide +kernel
theorem d_Gr_addVariable_45 : decode b_Gr_addVariable 45 = .ok (.ireturn, 1) := by decide +kernel
theorem ml_Gr_61 : Cond.methodLink R_Gr 61 ⟨"RuleTrees$Grammar", "hasSort", "(I)Z"⟩ ∈ TB := tb_of 305 (by decide +kernel) (by decide +kernel)
theorem u_Gr_hasSort : (Cond.instanceMethod y_Gr_hasSort ∈ TB ∧ Cond.selects R_Gr y_Gr_hasSort y_Gr_hasSort ∈ TB) ∧ Cond.initialized R_Gr ∈ TB ∧ Cond.code y_Gr_hasSort b_Gr_hasSort 2 (some .boolean) ∈ TB := ⟨⟨(tb_of 306 (by decide +kernel) (by decide +kernel)), (tb_of 307 (by decide +kernel) (by decide +kernel))⟩, (tb_of 63 (by decide +kernel) (by decide +kernel)), k_Gr_hasSort⟩
abbrev rm_Gr_addVariable : Room := { frames := 1, cells := 0, slots := 0, locals := 21 }
def f_Gr_addVariable_0 (s_self : Nat → Nat → Int32) (v1 : Int32) : Option ((Int32) × (Nat → Nat → Int32)) :=
  bd1 (m_Gr_hasSort s_self v1) fun r_1 =>
  if r_1 = 0 then
    some (((-1)), s_self)
  else
    if (s_self 0 1) < 20 then
      ck (s_self 0 1) 20 <| nm (st2 s_self 1 (Int32.toNatClampNeg (s_self 0 1)) v1) fun s_self_6 =>
      nm (st2 s_self_6 0 1 ((s_self_6 0 1) + 1)) fun s_self_7 =>
      some (((s_self_7 0 1) - 1), s_self_7)
    else
      some (((-1)), s_self)
set_option maxHeartbeats 4000000 in
set_option maxRecDepth 100000 in
theorem t_Gr_addVariable_0 {p : Program} {l : Launch} {e : Env} {s : State} {m : MethodId} {args : Array Value} {below : List Frame} {meth : Method} {c : Code} {A : Nat → Prop} {D : va_G} {K : Nat → ClassId} (a_self : Nat → Nat) (X : gx p s m args c b_Gr_addVariable 2 R_Gr w_Gr_addVariable D classes (tyK K) A) (hr : meth.sig.returnType = some .int) (hlk : meth.locks = false) (r : Int32) (f_self : Nat → Nat → Int32) (s_self : Nat → Nat → Int32) (v1 : Int32) (h : f_Gr_addVariable_0 s_self v1 = some (r, f_self)) : Gd p l e rm_Gr_addVariable s m args below meth c 0 0 (MQ below (sq D classes (tyK K) (some (.int r)) [wd_Gr K a_self f_self] A) args s 0 0 A) D classes A 2 0 [wd_Gr K a_self s_self] [(0, .ref (a_self 0)), (1, .int v1)] [] := by
  unfold f_Gr_addVariable_0 at h
  refine gd_aload_n X d_Gr_addVariable_0 0 rfl ?_
  refine gd_iload_n X d_Gr_addVariable_1 1 rfl ?_
  obtain ⟨r_1, hc_2, h⟩ := bd1_e h
  refine gd_fI X (gd_V X (As := [.int v1]) (rest := []) (c_Gr_hasSort l D K a_self s_self v1 r_1 hc_2) 1 (gi_V ml_Gr_61 u_Gr_hasSort) rfl ⟨rfl, rfl⟩ (by decide +kernel) ⟨by decide, by decide⟩ (ci := 1) rfl rfl rfl rfl rfl rfl (Nat.le_of_ble_eq_true rfl) ⟨Nat.zero_le _, Nat.zero_le _⟩ d_Gr_addVariable_2) ?_
  refine gd_if_eq X (tgt := 17) d_Gr_addVariable_5 (by decide) (fun c_3 => ?_) (fun c_3 => ?_)
  · replace h := it_p c_3 h
    refine gd_iconst X (v := (-1)) d_Gr_addVariable_17 (by decide) ?_
    cases h
    exact gd_iret X hr hlk d_Gr_addVariable_18
  · replace h := it_n c_3 h
    refine gd_aload_n X d_Gr_addVariable_8 0 rfl ?_
    refine gd_get X (ci := 1) (C := R_Gr) (T := F_Gr) (N := 12) (v := .int (s_self 0 1)) 0 0 rfl rfl rfl (in_Gr _) 1 (by decide) (List.mem_cons_of_mem _ fl_Gr_40) rfl rfl d_Gr_addVariable_9 ?_
    refine gd_bipush X (v := 20) d_Gr_addVariable_12 (by decide) ?_
    refine gd_icmp_lt X (tgt := 19) d_Gr_addVariable_14 (by decide) (fun c_4 => ?_) (fun c_4 => ?_)
    · replace h := it_p c_4 h
      refine gd_aload_n X d_Gr_addVariable_19 0 rfl ?_
      refine gd_get X (ci := 1) (C := R_Gr) (T := F_Gr) (N := 12) (v := .ref (a_self 1)) 0 0 rfl rfl rfl (in_Gr _) 5 (by decide) (List.mem_cons_of_mem _ fl_Gr_9) rfl rfl d_Gr_addVariable_20 ?_
      refine gd_aload_n X d_Gr_addVariable_23 0 rfl ?_
      refine gd_get X (ci := 1) (C := R_Gr) (T := F_Gr) (N := 12) (v := .int (s_self 0 1)) 0 0 rfl rfl rfl (in_Gr _) 1 (by decide) (List.mem_cons_of_mem _ fl_Gr_40) rfl rfl d_Gr_addVariable_24 ?_
      refine gd_iload_n X d_Gr_addVariable_27 1 rfl ?_
      obtain ⟨hi_5, h⟩ := ck_e h
      obtain ⟨s_self_6, es_self_6, h⟩ := nm_e' h
      refine gd_iast X (w' := [wd_Gr K a_self s_self_6]) 0 1 0 rfl rfl rfl hi_5 d_Gr_addVariable_28 (by rw [es_self_6]; rfl) ?_
      refine gd_aload_n X d_Gr_addVariable_29 0 rfl ?_
      refine gd_dup X d_Gr_addVariable_30 rfl ?_
      refine gd_get X (ci := 1) (C := R_Gr) (T := F_Gr) (N := 12) (v := .int (s_self_6 0 1)) 0 0 rfl rfl rfl (in_Gr _) 1 (by decide) (List.mem_cons_of_mem _ fl_Gr_40) rfl rfl d_Gr_addVariable_31 ?_
      refine gd_iconst X (v := 1) d_Gr_addVariable_34 (by decide) ?_
      refine gd_iadd X d_Gr_addVariable_35 ?_
      obtain ⟨s_self_7, es_self_7, h⟩ := nm_e' h
      refine gd_put X (ci := 1) (C := R_Gr) (T := F_Gr) (N := 12) (ty := .int) (w' := [wd_Gr K a_self s_self_7]) 0 0 rfl rfl rfl (in_Gr _) t_Gr t_Gr_ok n_Gr 1 (by decide) (List.mem_cons_of_mem _ fl_Gr_40) rfl rfl (by decide +kernel) rfl rfl (Nat.le_of_ble_eq_true rfl) d_Gr_addVariable_36 (by rw [es_self_7]; rfl) ?_
      refine gd_aload_n X d_Gr_addVariable_39 0 rfl ?_
      refine gd_get X (ci := 1) (C := R_Gr) (T := F_Gr) (N := 12) (v := .int (s_self_7 0 1)) 0 0 rfl rfl rfl (in_Gr _) 1 (by decide) (List.mem_cons_of_mem _ fl_Gr_40) rfl rfl d_Gr_addVariable_40 ?_
      refine gd_iconst X (v := 1) d_Gr_addVariable_43 (by decide) ?_
      refine gd_isub X d_Gr_addVariable_44 ?_
      cases h
      exact gd_iret X hr hlk d_Gr_addVariable_45
    · replace h := it_n c_4 h
      refine gd_iconst X (v := (-1)) d_Gr_addVariable_17 (by decide) ?_
      cases h
      exact gd_iret X hr hlk d_Gr_addVariable_18
def m_Gr_addVariable (s_self : Nat → Nat → Int32) (v1 : Int32) : Option ((Int32) × (Nat → Nat → Int32)) := f_Gr_addVariable_0 s_self v1
set_option maxHeartbeats 4000000 in
set_option maxRecDepth 100000 in
theorem c_Gr_addVariable (l : Launch) (D : va_G) (K : Nat → ClassId) (a_self : Nat → Nat) (s_self : Nat → Nat → Int32) (v1 : Int32) (r : Int32) (f_self : Nat → Nat → Int32) (h : m_Gr_addVariable s_self v1 = some (r, f_self)) : SMet l y_Gr_addVariable w_Gr_addVariable rm_Gr_addVariable D classes (tyK K) [.ref (a_self 0), .int v1] (some (.int r)) [wd_Gr K a_self s_self] [wd_Gr K a_self f_self] := by
  refine sm_of R_Gr (by decide) rfl rfl (Nat.le_of_ble_eq_true rfl) ?_
  intro p e s m below meth c A X hr hlk
  refine gd_loc (lv' := [(0, .ref (a_self 0)), (1, .int v1)]) [0, 1] rfl ?_
  exact t_Gr_addVariable_0 a_self X hr hlk r f_self s_self v1 h
abbrev b_Gr_beginRule : ByteArray := prog_3_method_16_code
def y_Gr_beginRule : MethodName := ⟨R_Gr, "beginRule", "(I)Z"⟩
def w_Gr_beginRule : List Cond := .code y_Gr_beginRule b_Gr_beginRule 2 (some .boolean) :: TB
theorem k_Gr_beginRule : Cond.code y_Gr_beginRule b_Gr_beginRule 2 (some .boolean) ∈ TB := tb_of 316 (by decide +kernel) (by decide +kernel)
theorem d_Gr_beginRule_0 : decode b_Gr_beginRule 0 = .ok (.aload_n 0, 1) := by decide +kernel
theorem d_Gr_beginRule_1 : decode b_Gr_beginRule 1 = .ok (.getfield 57, 3) := by decide +kernel
theorem d_Gr_beginRule_4 : decode b_Gr_beginRule 4 = .ok (.ifCond .ne 20, 3) := by decide +kernel
theorem d_Gr_beginRule_7 : decode b_Gr_beginRule 7 = .ok (.aload_n 0, 1) := by decide +kernel
theorem d_Gr_beginRule_8 : decode b_Gr_beginRule 8 = .ok (.iload_n 1, 1) := by decide +kernel
theorem d_Gr_beginRule_9 : decode b_Gr_beginRule 9 = .ok (.invokevirtual 61, 3) := by decide +kernel
theorem d_Gr_beginRule_12 : decode b_Gr_beginRule 12 = .ok (.ifCond .eq 12, 3) := by decide +kernel
theorem d_Gr_beginRule_15 : decode b_Gr_beginRule 15 = .ok (.aload_n 0, 1) := by decide +kernel
theorem d_Gr_beginRule_16 : decode b_Gr_beginRule 16 = .ok (.getfield 37, 3) := by decide +kernel
theorem d_Gr_beginRule_19 : decode b_Gr_beginRule 19 = .ok (.bipush 30, 2) := by decide +kernel
theorem d_Gr_beginRule_21 : decode b_Gr_beginRule 21 = .ok (.if_icmp .lt 5, 3) := by decide +kernel
theorem d_Gr_beginRule_24 : decode b_Gr_beginRule 24 = .ok (.iconst 0, 1) := by decide +kernel
theorem d_Gr_beginRule_25 : decode b_Gr_beginRule 25 = .ok (.ireturn, 1) := by decide +kernel
theorem d_Gr_beginRule_26 : decode b_Gr_beginRule 26 = .ok (.aload_n 0, 1) := by decide +kernel
theorem d_Gr_beginRule_27 : decode b_Gr_beginRule 27 = .ok (.iconst 1, 1) := by decide +kernel
theorem d_Gr_beginRule_28 : decode b_Gr_beginRule 28 = .ok (.putfield 57, 3) := by decide +kernel
theorem d_Gr_beginRule_31 : decode b_Gr_beginRule 31 = .ok (.aload_n 0, 1) := by decide +kernel
theorem d_Gr_beginRule_32 : decode b_Gr_beginRule 32 = .ok (.iconst 0, 1) := by decide +kernel
theorem d_Gr_beginRule_33 : decode b_Gr_beginRule 33 = .ok (.putfield 64, 3) := by decide +kernel
theorem d_Gr_beginRule_36 : decode b_Gr_beginRule 36 = .ok (.aload_n 0, 1) := by decide +kernel
theorem d_Gr_beginRule_37 : decode b_Gr_beginRule 37 = .ok (.getfield 15, 3) := by decide +kernel
theorem d_Gr_beginRule_40 : decode b_Gr_beginRule 40 = .ok (.aload_n 0, 1) := by decide +kernel
theorem d_Gr_beginRule_41 : decode b_Gr_beginRule 41 = .ok (.getfield 37, 3) := by decide +kernel
theorem d_Gr_beginRule_44 : decode b_Gr_beginRule 44 = .ok (.iload_n 1, 1) := by decide +kernel
theorem d_Gr_beginRule_45 : decode b_Gr_beginRule 45 = .ok (.iastore, 1) := by decide +kernel
theorem d_Gr_beginRule_46 : decode b_Gr_beginRule 46 = .ok (.aload_n 0, 1) := by decide +kernel
theorem d_Gr_beginRule_47 : decode b_Gr_beginRule 47 = .ok (.getfield 18, 3) := by decide +kernel
theorem d_Gr_beginRule_50 : decode b_Gr_beginRule 50 = .ok (.aload_n 0, 1) := by decide +kernel
theorem d_Gr_beginRule_51 : decode b_Gr_beginRule 51 = .ok (.getfield 37, 3) := by decide +kernel
theorem d_Gr_beginRule_54 : decode b_Gr_beginRule 54 = .ok (.iconst 0, 1) := by decide +kernel
theorem d_Gr_beginRule_55 : decode b_Gr_beginRule 55 = .ok (.iastore, 1) := by decide +kernel
theorem d_Gr_beginRule_56 : decode b_Gr_beginRule 56 = .ok (.aload_n 0, 1) := by decide +kernel
theorem d_Gr_beginRule_57 : decode b_Gr_beginRule 57 = .ok (.getfield 27, 3) := by decide +kernel
theorem d_Gr_beginRule_60 : decode b_Gr_beginRule 60 = .ok (.aload_n 0, 1) := by decide +kernel
theorem d_Gr_beginRule_61 : decode b_Gr_beginRule 61 = .ok (.getfield 37, 3) := by decide +kernel
theorem d_Gr_beginRule_64 : decode b_Gr_beginRule 64 = .ok (.iconst 0, 1) := by decide +kernel
theorem d_Gr_beginRule_65 : decode b_Gr_beginRule 65 = .ok (.iastore, 1) := by decide +kernel
theorem d_Gr_beginRule_66 : decode b_Gr_beginRule 66 = .ok (.iconst 1, 1) := by decide +kernel
theorem d_Gr_beginRule_67 : decode b_Gr_beginRule 67 = .ok (.ireturn, 1) := by decide +kernel
theorem fl_Gr_64 : Cond.fieldLink R_Gr 64 "RuleTrees$Grammar" "begunVariables" "I" ∈ TB := tb_of 95 (by decide +kernel) (by decide +kernel)
abbrev rm_Gr_beginRule : Room := { frames := 1, cells := 0, slots := 0, locals := 21 }
def f_Gr_beginRule_0 (s_self : Nat → Nat → Int32) (v1 : Int32) : Option ((Int32) × (Nat → Nat → Int32)) :=
  if (s_self 0 3) = 0 then
    bd1 (m_Gr_hasSort s_self v1) fun r_2 =>
    if r_2 = 0 then
      some ((0), s_self)
    else
      if (s_self 0 2) < 30 then
        nm (st2 s_self 0 3 1) fun s_self_6 =>
        nm (st2 s_self_6 0 4 0) fun s_self_7 =>
        ck (s_self_7 0 2) 30 <| nm (st2 s_self_7 2 (Int32.toNatClampNeg (s_self_7 0 2)) v1) fun s_self_9 =>
        ck (s_self_9 0 2) 30 <| nm (st2 s_self_9 3 (Int32.toNatClampNeg (s_self_9 0 2)) 0) fun s_self_11 =>
        ck (s_self_11 0 2) 30 <| nm (st2 s_self_11 6 (Int32.toNatClampNeg (s_self_11 0 2)) 0) fun s_self_13 =>
        some ((1), s_self_13)
      else
        some ((0), s_self)
  else
    some ((0), s_self)
set_option maxHeartbeats 4000000 in
set_option maxRecDepth 100000 in
theorem t_Gr_beginRule_0 {p : Program} {l : Launch} {e : Env} {s : State} {m : MethodId} {args : Array Value} {below : List Frame} {meth : Method} {c : Code} {A : Nat → Prop} {D : va_G} {K : Nat → ClassId} (a_self : Nat → Nat) (X : gx p s m args c b_Gr_beginRule 2 R_Gr w_Gr_beginRule D classes (tyK K) A) (hr : meth.sig.returnType = some .boolean) (hlk : meth.locks = false) (r : Int32) (f_self : Nat → Nat → Int32) (s_self : Nat → Nat → Int32) (v1 : Int32) (h : f_Gr_beginRule_0 s_self v1 = some (r, f_self)) : Gd p l e rm_Gr_beginRule s m args below meth c 0 0 (MQ below (sq D classes (tyK K) (some (.int r)) [wd_Gr K a_self f_self] A) args s 0 0 A) D classes A 2 0 [wd_Gr K a_self s_self] [(0, .ref (a_self 0)), (1, .int v1)] [] := by
  unfold f_Gr_beginRule_0 at h
  refine gd_aload_n X d_Gr_beginRule_0 0 rfl ?_
  refine gd_get X (ci := 1) (C := R_Gr) (T := F_Gr) (N := 12) (v := .int (s_self 0 3)) 0 0 rfl rfl rfl (in_Gr _) 3 (by decide) (List.mem_cons_of_mem _ fl_Gr_57) rfl rfl d_Gr_beginRule_1 ?_
  refine gd_if_ne X (tgt := 24) d_Gr_beginRule_4 (by decide) (fun c_1 => ?_) (fun c_1 => ?_)
  · replace h := it_n c_1 h
    refine gd_iconst X (v := 0) d_Gr_beginRule_24 (by decide) ?_
    cases h
    exact gd_zret X hr hlk (by decide) d_Gr_beginRule_25
  · replace h := it_p c_1 h
    refine gd_aload_n X d_Gr_beginRule_7 0 rfl ?_
    refine gd_iload_n X d_Gr_beginRule_8 1 rfl ?_
    obtain ⟨r_2, hc_3, h⟩ := bd1_e h
    refine gd_fI X (gd_V X (As := [.int v1]) (rest := []) (c_Gr_hasSort l D K a_self s_self v1 r_2 hc_3) 1 (gi_V ml_Gr_61 u_Gr_hasSort) rfl ⟨rfl, rfl⟩ (by decide +kernel) ⟨by decide, by decide⟩ (ci := 1) rfl rfl rfl rfl rfl rfl (Nat.le_of_ble_eq_true rfl) ⟨Nat.zero_le _, Nat.zero_le _⟩ d_Gr_beginRule_9) ?_
    refine gd_if_eq X (tgt := 24) d_Gr_beginRule_12 (by decide) (fun c_4 => ?_) (fun c_4 => ?_)
    · replace h := it_p c_4 h
      refine gd_iconst X (v := 0) d_Gr_beginRule_24 (by decide) ?_
      cases h
      exact gd_zret X hr hlk (by decide) d_Gr_beginRule_25
    · replace h := it_n c_4 h
      refine gd_aload_n X d_Gr_beginRule_15 0 rfl ?_
      refine gd_get X (ci := 1) (C := R_Gr) (T := F_Gr) (N := 12) (v := .int (s_self 0 2)) 0 0 rfl rfl rfl (in_Gr _) 2 (by decide) (List.mem_cons_of_mem _ fl_Gr_37) rfl rfl d_Gr_beginRule_16 ?_
      refine gd_bipush X (v := 30) d_Gr_beginRule_19 (by decide) ?_
      refine gd_icmp_lt X (tgt := 26) d_Gr_beginRule_21 (by decide) (fun c_5 => ?_) (fun c_5 => ?_)
      · replace h := it_p c_5 h
        refine gd_aload_n X d_Gr_beginRule_26 0 rfl ?_
        refine gd_iconst X (v := 1) d_Gr_beginRule_27 (by decide) ?_
        obtain ⟨s_self_6, es_self_6, h⟩ := nm_e' h
        refine gd_put X (ci := 1) (C := R_Gr) (T := F_Gr) (N := 12) (ty := .boolean) (w' := [wd_Gr K a_self s_self_6]) 0 0 rfl rfl rfl (in_Gr _) t_Gr t_Gr_ok n_Gr 3 (by decide) (List.mem_cons_of_mem _ fl_Gr_57) rfl rfl (by decide +kernel) (by decide) (by decide) (Nat.le_of_ble_eq_true rfl) d_Gr_beginRule_28 (by rw [es_self_6]; rfl) ?_
        refine gd_aload_n X d_Gr_beginRule_31 0 rfl ?_
        refine gd_iconst X (v := 0) d_Gr_beginRule_32 (by decide) ?_
        obtain ⟨s_self_7, es_self_7, h⟩ := nm_e' h
        refine gd_put X (ci := 1) (C := R_Gr) (T := F_Gr) (N := 12) (ty := .int) (w' := [wd_Gr K a_self s_self_7]) 0 0 rfl rfl rfl (in_Gr _) t_Gr t_Gr_ok n_Gr 4 (by decide) (List.mem_cons_of_mem _ fl_Gr_64) rfl rfl (by decide +kernel) rfl rfl (Nat.le_of_ble_eq_true rfl) d_Gr_beginRule_33 (by rw [es_self_7]; rfl) ?_
        refine gd_aload_n X d_Gr_beginRule_36 0 rfl ?_
        refine gd_get X (ci := 1) (C := R_Gr) (T := F_Gr) (N := 12) (v := .ref (a_self 2)) 0 0 rfl rfl rfl (in_Gr _) 6 (by decide) (List.mem_cons_of_mem _ fl_Gr_15) rfl rfl d_Gr_beginRule_37 ?_
        refine gd_aload_n X d_Gr_beginRule_40 0 rfl ?_
        refine gd_get X (ci := 1) (C := R_Gr) (T := F_Gr) (N := 12) (v := .int (s_self_7 0 2)) 0 0 rfl rfl rfl (in_Gr _) 2 (by decide) (List.mem_cons_of_mem _ fl_Gr_37) rfl rfl d_Gr_beginRule_41 ?_
        refine gd_iload_n X d_Gr_beginRule_44 1 rfl ?_
        obtain ⟨hi_8, h⟩ := ck_e h
        obtain ⟨s_self_9, es_self_9, h⟩ := nm_e' h
        refine gd_iast X (w' := [wd_Gr K a_self s_self_9]) 0 2 0 rfl rfl rfl hi_8 d_Gr_beginRule_45 (by rw [es_self_9]; rfl) ?_
        refine gd_aload_n X d_Gr_beginRule_46 0 rfl ?_
        refine gd_get X (ci := 1) (C := R_Gr) (T := F_Gr) (N := 12) (v := .ref (a_self 3)) 0 0 rfl rfl rfl (in_Gr _) 7 (by decide) (List.mem_cons_of_mem _ fl_Gr_18) rfl rfl d_Gr_beginRule_47 ?_
        refine gd_aload_n X d_Gr_beginRule_50 0 rfl ?_
        refine gd_get X (ci := 1) (C := R_Gr) (T := F_Gr) (N := 12) (v := .int (s_self_9 0 2)) 0 0 rfl rfl rfl (in_Gr _) 2 (by decide) (List.mem_cons_of_mem _ fl_Gr_37) rfl rfl d_Gr_beginRule_51 ?_
        refine gd_iconst X (v := 0) d_Gr_beginRule_54 (by decide) ?_
        obtain ⟨hi_10, h⟩ := ck_e h
        obtain ⟨s_self_11, es_self_11, h⟩ := nm_e' h
        refine gd_iast X (w' := [wd_Gr K a_self s_self_11]) 0 3 0 rfl rfl rfl hi_10 d_Gr_beginRule_55 (by rw [es_self_11]; rfl) ?_
        refine gd_aload_n X d_Gr_beginRule_56 0 rfl ?_
        refine gd_get X (ci := 1) (C := R_Gr) (T := F_Gr) (N := 12) (v := .ref (a_self 6)) 0 0 rfl rfl rfl (in_Gr _) 10 (by decide) (List.mem_cons_of_mem _ fl_Gr_27) rfl rfl d_Gr_beginRule_57 ?_
        refine gd_aload_n X d_Gr_beginRule_60 0 rfl ?_
        refine gd_get X (ci := 1) (C := R_Gr) (T := F_Gr) (N := 12) (v := .int (s_self_11 0 2)) 0 0 rfl rfl rfl (in_Gr _) 2 (by decide) (List.mem_cons_of_mem _ fl_Gr_37) rfl rfl d_Gr_beginRule_61 ?_
        refine gd_iconst X (v := 0) d_Gr_beginRule_64 (by decide) ?_
        obtain ⟨hi_12, h⟩ := ck_e h
        obtain ⟨s_self_13, es_self_13, h⟩ := nm_e' h
        refine gd_iast X (w' := [wd_Gr K a_self s_self_13]) 0 6 0 rfl rfl rfl hi_12 d_Gr_beginRule_65 (by rw [es_self_13]; rfl) ?_
        refine gd_iconst X (v := 1) d_Gr_beginRule_66 (by decide) ?_
        cases h
        exact gd_zret X hr hlk (by decide) d_Gr_beginRule_67
      · replace h := it_n c_5 h
        refine gd_iconst X (v := 0) d_Gr_beginRule_24 (by decide) ?_
        cases h
        exact gd_zret X hr hlk (by decide) d_Gr_beginRule_25
def m_Gr_beginRule (s_self : Nat → Nat → Int32) (v1 : Int32) : Option ((Int32) × (Nat → Nat → Int32)) := f_Gr_beginRule_0 s_self v1
set_option maxHeartbeats 4000000 in
set_option maxRecDepth 100000 in
theorem c_Gr_beginRule (l : Launch) (D : va_G) (K : Nat → ClassId) (a_self : Nat → Nat) (s_self : Nat → Nat → Int32) (v1 : Int32) (r : Int32) (f_self : Nat → Nat → Int32) (h : m_Gr_beginRule s_self v1 = some (r, f_self)) : SMet l y_Gr_beginRule w_Gr_beginRule rm_Gr_beginRule D classes (tyK K) [.ref (a_self 0), .int v1] (some (.int r)) [wd_Gr K a_self s_self] [wd_Gr K a_self f_self] := by
  refine sm_of R_Gr (by decide) rfl rfl (Nat.le_of_ble_eq_true rfl) ?_
  intro p e s m below meth c A X hr hlk
  refine gd_loc (lv' := [(0, .ref (a_self 0)), (1, .int v1)]) [0, 1] rfl ?_
  exact t_Gr_beginRule_0 a_self X hr hlk r f_self s_self v1 h
