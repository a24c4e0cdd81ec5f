abbrev b_Md_code : ByteArray := prog_10_method_35_code
def y_Md_code : MethodName := ⟨R_Md, "code", "(III)I"⟩
def w_Md_code : List Cond := .code y_Md_code b_Md_code 5 (some .int) :: TB
theorem k_Md_code : Cond.code y_Md_code b_Md_code 5 (some .int) ∈ TB := tb_of 961 (by decide +kernel) (by decide +kernel)
theorem d_Md_code_0 : decode b_Md_code 0 = .ok (.aload_n 0, 1) := by decide +kernel
theorem d_Md_code_1 : decode b_Md_code 1 = .ok (.iconst 0, 1) := by decide +kernel
theorem d_Md_code_2 : decode b_Md_code 2 = .ok (.putfield 86, 3) := by decide +kernel
theorem d_Md_code_5 : decode b_Md_code 5 = .ok (.aload_n 0, 1) := by decide +kernel
theorem d_Md_code_6 : decode b_Md_code 6 = .ok (.invokevirtual 192, 3) := by decide +kernel
theorem d_Md_code_9 : decode b_Md_code 9 = .ok (.aload_n 0, 1) := by decide +kernel
theorem d_Md_code_10 : decode b_Md_code 10 = .ok (.iload_n 1, 1) := by decide +kernel
theorem d_Md_code_11 : decode b_Md_code 11 = .ok (.iload_n 2, 1) := by decide +kernel
theorem d_Md_code_12 : decode b_Md_code 12 = .ok (.invokevirtual 195, 3) := by decide +kernel
theorem d_Md_code_15 : decode b_Md_code 15 = .ok (.istore 4, 2) := by decide +kernel
theorem d_Md_code_17 : decode b_Md_code 17 = .ok (.iload 4, 2) := by decide +kernel
theorem d_Md_code_19 : decode b_Md_code 19 = .ok (.ifCond .lt 18, 3) := by decide +kernel
theorem d_Md_code_22 : decode b_Md_code 22 = .ok (.iload_n 3, 1) := by decide +kernel
theorem d_Md_code_23 : decode b_Md_code 23 = .ok (.ifCond .lt 14, 3) := by decide +kernel
theorem d_Md_code_26 : decode b_Md_code 26 = .ok (.iload_n 3, 1) := by decide +kernel
theorem d_Md_code_27 : decode b_Md_code 27 = .ok (.aload_n 0, 1) := by decide +kernel
theorem d_Md_code_28 : decode b_Md_code 28 = .ok (.getfield 35, 3) := by decide +kernel
theorem d_Md_code_31 : decode b_Md_code 31 = .ok (.iload 4, 2) := by decide +kernel
theorem d_Md_code_33 : decode b_Md_code 33 = .ok (.iaload, 1) := by decide +kernel
theorem d_Md_code_34 : decode b_Md_code 34 = .ok (.if_icmp .lt 9, 3) := by decide +kernel
theorem d_Md_code_37 : decode b_Md_code 37 = .ok (.sipush (-1000), 3) := by decide +kernel
theorem d_Md_code_40 : decode b_Md_code 40 = .ok (.goto 16, 3) := by decide +kernel
theorem d_Md_code_43 : decode b_Md_code 43 = .ok (.aload_n 0, 1) := by decide +kernel
theorem d_Md_code_44 : decode b_Md_code 44 = .ok (.getfield 39, 3) := by decide +kernel
theorem d_Md_code_47 : decode b_Md_code 47 = .ok (.sipush 200, 3) := by decide +kernel
theorem d_Md_code_50 : decode b_Md_code 50 = .ok (.iload 4, 2) := by decide +kernel
theorem d_Md_code_52 : decode b_Md_code 52 = .ok (.imul, 1) := by decide +kernel
theorem d_Md_code_53 : decode b_Md_code 53 = .ok (.iload_n 3, 1) := by decide +kernel
theorem d_Md_code_54 : decode b_Md_code 54 = .ok (.iadd, 1) := by decide +kernel
theorem d_Md_code_55 : decode b_Md_code 55 = .ok (.iaload, 1) := by decide +kernel
theorem d_Md_code_56 : decode b_Md_code 56 = .ok (.ireturn, 1) := by decide +kernel
abbrev rm_Md_code : Room := { frames := 6, cells := 0, slots := 0, locals := 152 }
def f_Md_code_0 (N : Nat) (s_self : Nat → Nat → Int32) (v1 v2 v3 : Int32) : Option ((Int32) × (Nat → Nat → Int32)) :=
  nm (st2 s_self 0 0 0) fun s_self_1 =>
  bd1 (m_Md_know N s_self_1) fun s_self_2 =>
  bd1 (m_Md_treeOf s_self_2 v1 v2) fun r_4 =>
  if r_4 < 0 then
    some (((-1000)), s_self_2)
  else
    if v3 < 0 then
      some (((-1000)), s_self_2)
    else
      ck r_4 1872 <|
      if v3 < (s_self_2 8 (Int32.toNatClampNeg r_4)) then
        ck ((200 * r_4) + v3) 374400 <|
        some ((s_self_2 9 (Int32.toNatClampNeg ((200 * r_4) + v3))), s_self_2)
      else
        some (((-1000)), s_self_2)
set_option maxHeartbeats 4000000 in
set_option maxRecDepth 100000 in
theorem t_Md_code_0 {p : Program} {l : Launch} {e : Env} {s : State} {m : MethodId} {args : Array Value} {below : List Frame} {meth : Method} {c : Code} {A : Nat → Prop} {D : va_G} {K : Nat → ClassId} (a_self a_least : Nat → Nat) (X : gx p s m args c b_Md_code 5 R_Md w_Md_code D classes (tyK K) A) (hr : meth.sig.returnType = some .int) (hlk : meth.locks = false) (N : Nat) (r : Int32) (f_self : Nat → Nat → Int32) (s_self : Nat → Nat → Int32) (v1 v2 v3 : Int32) (h : f_Md_code_0 N s_self v1 v2 v3 = some (r, f_self)) : Gd p l e rm_Md_code s m args below meth c 0 0 (MQ below (sq D classes (tyK K) (some (.int r)) [wd_Md K a_self (a_least 0) f_self] A) args s 0 0 A) D classes A 5 0 [wd_Md K a_self (a_least 0) s_self] [(0, .ref (a_self 0)), (1, .int v1), (2, .int v2), (3, .int v3)] [] := by
  unfold f_Md_code_0 at h
  refine gd_aload_n X d_Md_code_0 0 rfl ?_
  refine gd_iconst X (v := 0) d_Md_code_1 (by decide) ?_
  obtain ⟨s_self_1, es_self_1, h⟩ := nm_e' h
  refine gd_put X (ci := 7) (C := R_Md) (T := F_Md) (N := 36) (ty := .int) (w' := [wd_Md K a_self (a_least 0) s_self_1]) 0 0 rfl rfl rfl (in_Md _) t_Md t_Md_ok n_Md 0 (by decide) (List.mem_cons_of_mem _ fl_Md_86) rfl rfl (by decide +kernel) rfl rfl (Nat.le_of_ble_eq_true rfl) d_Md_code_2 (by rw [es_self_1]; rfl) ?_
  refine gd_aload_n X d_Md_code_5 0 rfl ?_
  obtain ⟨s_self_2, hc_3, h⟩ := bd1_e h
  refine gd_fv X (w1 := [wd_Md K a_self (a_least 0) s_self_2]) (gd_V X (As := []) (rest := []) (c_Md_know l D K a_self a_least N s_self_1 s_self_2 hc_3) 0 (gi_V ml_Md_192 u_Md_know) rfl ⟨rfl, rfl⟩ (by decide +kernel) ⟨by decide, by decide⟩ (ci := 7) rfl rfl rfl rfl rfl rfl (Nat.le_of_ble_eq_true rfl) ⟨Nat.zero_le _, Nat.zero_le _⟩ d_Md_code_6) ?_
  refine gd_aload_n X d_Md_code_9 0 rfl ?_
  refine gd_iload_n X d_Md_code_10 1 rfl ?_
  refine gd_iload_n X d_Md_code_11 2 rfl ?_
  obtain ⟨r_4, hc_5, h⟩ := bd1_e h
  refine gd_fI X (gd_V X (As := [.int v1, .int v2]) (rest := []) (c_Md_treeOf l D K a_self a_least s_self_2 v1 v2 r_4 hc_5) 2 (gi_V ml_Md_195 u_Md_treeOf) rfl ⟨rfl, rfl⟩ (by decide +kernel) ⟨by decide, by decide⟩ (ci := 7) rfl rfl rfl rfl rfl rfl (Nat.le_of_ble_eq_true rfl) ⟨Nat.zero_le _, Nat.zero_le _⟩ d_Md_code_12) ?_
  refine gd_istore X (lv' := [(4, .int r_4), (0, .ref (a_self 0)), (1, .int v1), (2, .int v2), (3, .int v3)]) d_Md_code_15 (by decide) rfl ?_
  refine gd_iload X d_Md_code_17 0 rfl ?_
  refine gd_if_lt X (tgt := 37) d_Md_code_19 (by decide) (fun c_6 => ?_) (fun c_6 => ?_)
  · replace h := it_p c_6 h
    refine gd_sipush X (v := (-1000)) d_Md_code_37 (by decide) ?_
    refine gd_goto X (tgt := 56) d_Md_code_40 (by decide) ?_
    cases h
    exact gd_iret X hr hlk d_Md_code_56
  · replace h := it_n c_6 h
    refine gd_iload_n X d_Md_code_22 4 rfl ?_
    refine gd_if_lt X (tgt := 37) d_Md_code_23 (by decide) (fun c_7 => ?_) (fun c_7 => ?_)
    · replace h := it_p c_7 h
      refine gd_sipush X (v := (-1000)) d_Md_code_37 (by decide) ?_
      refine gd_goto X (tgt := 56) d_Md_code_40 (by decide) ?_
      cases h
      exact gd_iret X hr hlk d_Md_code_56
    · replace h := it_n c_7 h
      refine gd_iload_n X d_Md_code_26 4 rfl ?_
      refine gd_aload_n X d_Md_code_27 1 rfl ?_
      refine gd_get X (ci := 7) (C := R_Md) (T := F_Md) (N := 36) (v := .ref (a_self 8)) 0 0 rfl rfl rfl (in_Md _) 16 (by decide) (List.mem_cons_of_mem _ fl_Md_35) rfl rfl d_Md_code_28 ?_
      refine gd_iload X d_Md_code_31 0 rfl ?_
      obtain ⟨hi_8, h⟩ := ck_e h
      refine gd_iald X 0 8 0 rfl rfl rfl hi_8 d_Md_code_33 ?_
      refine gd_icmp_lt X (tgt := 43) d_Md_code_34 (by decide) (fun c_9 => ?_) (fun c_9 => ?_)
      · replace h := it_p c_9 h
        refine gd_aload_n X d_Md_code_43 1 rfl ?_
        refine gd_get X (ci := 7) (C := R_Md) (T := F_Md) (N := 36) (v := .ref (a_self 9)) 0 0 rfl rfl rfl (in_Md _) 17 (by decide) (List.mem_cons_of_mem _ fl_Md_39) rfl rfl d_Md_code_44 ?_
        refine gd_sipush X (v := 200) d_Md_code_47 (by decide) ?_
        refine gd_iload X d_Md_code_50 0 rfl ?_
        refine gd_imul X d_Md_code_52 ?_
        refine gd_iload_n X d_Md_code_53 4 rfl ?_
        refine gd_iadd X d_Md_code_54 ?_
        obtain ⟨hi_10, h⟩ := ck_e h
        refine gd_iald X 0 9 0 rfl rfl rfl hi_10 d_Md_code_55 ?_
        cases h
        exact gd_iret X hr hlk d_Md_code_56
      · replace h := it_n c_9 h
        refine gd_sipush X (v := (-1000)) d_Md_code_37 (by decide) ?_
        refine gd_goto X (tgt := 56) d_Md_code_40 (by decide) ?_
        cases h
        exact gd_iret X hr hlk d_Md_code_56
def m_Md_code (N : Nat) (s_self : Nat → Nat → Int32) (v1 v2 v3 : Int32) : Option ((Int32) × (Nat → Nat → Int32)) := f_Md_code_0 N s_self v1 v2 v3
set_option maxHeartbeats 4000000 in
set_option maxRecDepth 100000 in
theorem c_Md_code (l : Launch) (D : va_G) (K : Nat → ClassId) (a_self a_least : Nat → Nat) (N : Nat) (s_self : Nat → Nat → Int32) (v1 v2 v3 : Int32) (r : Int32) (f_self : Nat → Nat → Int32) (h : m_Md_code N s_self v1 v2 v3 = some (r, f_self)) : SMet l y_Md_code w_Md_code rm_Md_code D classes (tyK K) [.ref (a_self 0), .int v1, .int v2, .int v3] (some (.int r)) [wd_Md K a_self (a_least 0) s_self] [wd_Md K a_self (a_least 0) f_self] := by
  refine sm_of R_Md (by decide) rfl rfl (Nat.le_of_ble_eq_true rfl) ?_
  intro p e s m below meth c A X hr hlk
  refine gd_loc (lv' := [(0, .ref (a_self 0)), (1, .int v1), (2, .int v2), (3, .int v3)]) [0, 1, 2, 3] rfl ?_
  exact t_Md_code_0 a_self a_least X hr hlk N r f_self s_self v1 v2 v3 h
abbrev b_Md_stretches : ByteArray := prog_10_method_36_code
def y_Md_stretches : MethodName := ⟨R_Md, "stretches", "(II)I"⟩
def w_Md_stretches : List Cond := .code y_Md_stretches b_Md_stretches 8 (some .int) :: TB
theorem k_Md_stretches : Cond.code y_Md_stretches b_Md_stretches 8 (some .int) ∈ TB := tb_of 965 (by decide +kernel) (by decide +kernel)
theorem d_Md_stretches_0 : decode b_Md_stretches 0 = .ok (.aload_n 0, 1) := by decide +kernel
theorem d_Md_stretches_1 : decode b_Md_stretches 1 = .ok (.iconst 0, 1) := by decide +kernel
theorem d_Md_stretches_2 : decode b_Md_stretches 2 = .ok (.putfield 86, 3) := by decide +kernel
theorem d_Md_stretches_5 : decode b_Md_stretches 5 = .ok (.aload_n 0, 1) := by decide +kernel
theorem d_Md_stretches_6 : decode b_Md_stretches 6 = .ok (.iload_n 1, 1) := by decide +kernel
theorem d_Md_stretches_7 : decode b_Md_stretches 7 = .ok (.invokevirtual 99, 3) := by decide +kernel
theorem d_Md_stretches_10 : decode b_Md_stretches 10 = .ok (.ifCond .eq 12, 3) := by decide +kernel
theorem d_Md_stretches_13 : decode b_Md_stretches 13 = .ok (.iload_n 2, 1) := by decide +kernel
theorem d_Md_stretches_14 : decode b_Md_stretches 14 = .ok (.ifCond .lt 8, 3) := by decide +kernel
theorem d_Md_stretches_17 : decode b_Md_stretches 17 = .ok (.iload_n 2, 1) := by decide +kernel
theorem d_Md_stretches_18 : decode b_Md_stretches 18 = .ok (.iconst 3, 1) := by decide +kernel
theorem d_Md_stretches_19 : decode b_Md_stretches 19 = .ok (.if_icmp .le 5, 3) := by decide +kernel
theorem d_Md_stretches_22 : decode b_Md_stretches 22 = .ok (.iconst (-1), 1) := by decide +kernel
theorem d_Md_stretches_23 : decode b_Md_stretches 23 = .ok (.ireturn, 1) := by decide +kernel
theorem d_Md_stretches_24 : decode b_Md_stretches 24 = .ok (.aload_n 0, 1) := by decide +kernel
theorem d_Md_stretches_25 : decode b_Md_stretches 25 = .ok (.invokevirtual 192, 3) := by decide +kernel
theorem d_Md_stretches_28 : decode b_Md_stretches 28 = .ok (.iconst 0, 1) := by decide +kernel
theorem d_Md_stretches_29 : decode b_Md_stretches 29 = .ok (.istore_n 3, 1) := by decide +kernel
theorem d_Md_stretches_30 : decode b_Md_stretches 30 = .ok (.iconst 0, 1) := by decide +kernel
theorem d_Md_stretches_31 : decode b_Md_stretches 31 = .ok (.istore 4, 2) := by decide +kernel
theorem d_Md_stretches_33 : decode b_Md_stretches 33 = .ok (.iload 4, 2) := by decide +kernel
theorem d_Md_stretches_35 : decode b_Md_stretches 35 = .ok (.aload_n 0, 1) := by decide +kernel
theorem d_Md_stretches_36 : decode b_Md_stretches 36 = .ok (.getfield 116, 3) := by decide +kernel
theorem d_Md_stretches_39 : decode b_Md_stretches 39 = .ok (.if_icmp .ge 84, 3) := by decide +kernel
theorem d_Md_stretches_42 : decode b_Md_stretches 42 = .ok (.iload 4, 2) := by decide +kernel
theorem d_Md_stretches_44 : decode b_Md_stretches 44 = .ok (.iconst 1, 1) := by decide +kernel
theorem d_Md_stretches_45 : decode b_Md_stretches 45 = .ok (.iadd, 1) := by decide +kernel
theorem d_Md_stretches_46 : decode b_Md_stretches 46 = .ok (.istore 5, 2) := by decide +kernel
theorem d_Md_stretches_48 : decode b_Md_stretches 48 = .ok (.iload 5, 2) := by decide +kernel
theorem d_Md_stretches_50 : decode b_Md_stretches 50 = .ok (.aload_n 0, 1) := by decide +kernel
theorem d_Md_stretches_51 : decode b_Md_stretches 51 = .ok (.getfield 116, 3) := by decide +kernel
theorem d_Md_stretches_54 : decode b_Md_stretches 54 = .ok (.if_icmp .gt 63, 3) := by decide +kernel
theorem d_Md_stretches_57 : decode b_Md_stretches 57 = .ok (.aload_n 0, 1) := by decide +kernel
theorem d_Md_stretches_58 : decode b_Md_stretches 58 = .ok (.getfield 32, 3) := by decide +kernel
theorem d_Md_stretches_61 : decode b_Md_stretches 61 = .ok (.iload_n 1, 1) := by decide +kernel
theorem d_Md_stretches_62 : decode b_Md_stretches 62 = .ok (.iload 4, 2) := by decide +kernel
theorem d_Md_stretches_64 : decode b_Md_stretches 64 = .ok (.iload 5, 2) := by decide +kernel
theorem d_Md_stretches_66 : decode b_Md_stretches 66 = .ok (.invokestatic 138, 3) := by decide +kernel
theorem d_Md_stretches_69 : decode b_Md_stretches 69 = .ok (.iaload, 1) := by decide +kernel
theorem d_Md_stretches_70 : decode b_Md_stretches 70 = .ok (.istore 6, 2) := by decide +kernel
theorem d_Md_stretches_72 : decode b_Md_stretches 72 = .ok (.iload 6, 2) := by decide +kernel
theorem d_Md_stretches_74 : decode b_Md_stretches 74 = .ok (.bipush (-3), 2) := by decide +kernel
theorem d_Md_stretches_76 : decode b_Md_stretches 76 = .ok (.if_icmp .ne 7, 3) := by decide +kernel
theorem d_Md_stretches_79 : decode b_Md_stretches 79 = .ok (.iconst 3, 1) := by decide +kernel
theorem d_Md_stretches_80 : decode b_Md_stretches 80 = .ok (.goto 15, 3) := by decide +kernel
theorem d_Md_stretches_83 : decode b_Md_stretches 83 = .ok (.iload 6, 2) := by decide +kernel
theorem d_Md_stretches_85 : decode b_Md_stretches 85 = .ok (.iconst 1, 1) := by decide +kernel
theorem d_Md_stretches_86 : decode b_Md_stretches 86 = .ok (.if_icmp .le 7, 3) := by decide +kernel
theorem d_Md_stretches_89 : decode b_Md_stretches 89 = .ok (.iconst 2, 1) := by decide +kernel
theorem d_Md_stretches_90 : decode b_Md_stretches 90 = .ok (.goto 5, 3) := by decide +kernel
theorem d_Md_stretches_93 : decode b_Md_stretches 93 = .ok (.iload 6, 2) := by decide +kernel
theorem d_Md_stretches_95 : decode b_Md_stretches 95 = .ok (.istore 7, 2) := by decide +kernel
theorem d_Md_stretches_97 : decode b_Md_stretches 97 = .ok (.iload 7, 2) := by decide +kernel
theorem d_Md_stretches_99 : decode b_Md_stretches 99 = .ok (.iload_n 2, 1) := by decide +kernel
theorem d_Md_stretches_100 : decode b_Md_stretches 100 = .ok (.if_icmp .ne 9, 3) := by decide +kernel
theorem d_Md_stretches_103 : decode b_Md_stretches 103 = .ok (.iload_n 3, 1) := by decide +kernel
theorem d_Md_stretches_104 : decode b_Md_stretches 104 = .ok (.iconst 1, 1) := by decide +kernel
theorem d_Md_stretches_105 : decode b_Md_stretches 105 = .ok (.iadd, 1) := by decide +kernel
theorem d_Md_stretches_106 : decode b_Md_stretches 106 = .ok (.goto 4, 3) := by decide +kernel
theorem d_Md_stretches_109 : decode b_Md_stretches 109 = .ok (.iload_n 3, 1) := by decide +kernel
theorem d_Md_stretches_110 : decode b_Md_stretches 110 = .ok (.istore_n 3, 1) := by decide +kernel
theorem d_Md_stretches_111 : decode b_Md_stretches 111 = .ok (.iinc 5 1, 3) := by decide +kernel
theorem d_Md_stretches_114 : decode b_Md_stretches 114 = .ok (.goto (-66), 3) := by decide +kernel
theorem d_Md_stretches_117 : decode b_Md_stretches 117 = .ok (.iinc 4 1, 3) := by decide +kernel
theorem d_Md_stretches_120 : decode b_Md_stretches 120 = .ok (.goto (-87), 3) := by decide +kernel
theorem d_Md_stretches_123 : decode b_Md_stretches 123 = .ok (.iload_n 3, 1) := by decide +kernel
theorem d_Md_stretches_124 : decode b_Md_stretches 124 = .ok (.ireturn, 1) := by decide +kernel
abbrev rm_Md_stretches : Room := { frames := 6, cells := 0, slots := 0, locals := 152 }
def f_Md_stretches_95 (N : Nat) (kb : Int32 → Int32 → Option ((Int32) × (Nat → Nat → Int32))) (kx117 : Int32 → Option ((Int32) × (Nat → Nat → Int32))) (s_self : Nat → Nat → Int32) (v1 v2 v3 v4 v5 : Int32) (k0 : Int32) : Option ((Int32) × (Nat → Nat → Int32)) :=
  if k0 = v2 then
    nm (v3 + 1) fun v3_3 =>
    nm (v5 + 1) fun v5_4 =>
    kb v3_3 v5_4
  else
    nm (v5 + 1) fun v5_2 =>
    kb v3 v5_2
set_option maxHeartbeats 4000000 in
set_option maxRecDepth 100000 in
theorem t_Md_stretches_95 {p : Program} {l : Launch} {e : Env} {s : State} {m : MethodId} {args : Array Value} {below : List Frame} {meth : Method} {c : Code} {A : Nat → Prop} {D : va_G} {K : Nat → ClassId} (a_self a_least : Nat → Nat) (X : gx p s m args c b_Md_stretches 8 R_Md w_Md_stretches D classes (tyK K) A) (hr : meth.sig.returnType = some .int) (hlk : meth.locks = false) (N : Nat) (r : Int32) (f_self : Nat → Nat → Int32) (s_self : Nat → Nat → Int32) (v1 v2 v3 v4 v5 : Int32) (k0 : Int32) (kb : Int32 → Int32 → Option ((Int32) × (Nat → Nat → Int32))) (hkb : ∀ (v3 v5 : Int32), kb v3 v5 = some (r, f_self) → Gd p l e rm_Md_stretches s m args below meth c 0 0 (MQ below (sq D classes (tyK K) (some (.int r)) [wd_Md K a_self (a_least 0) f_self] A) args s 0 0 A) D classes A 8 48 [wd_Md K a_self (a_least 0) s_self] [(0, .ref (a_self 0)), (1, .int v1), (2, .int v2), (3, .int v3), (4, .int v4), (5, .int v5)] []) (kx117 : Int32 → Option ((Int32) × (Nat → Nat → Int32))) (hkx117 : ∀ (v3 : Int32), kx117 v3 = some (r, f_self) → Gd p l e rm_Md_stretches s m args below meth c 0 0 (MQ below (sq D classes (tyK K) (some (.int r)) [wd_Md K a_self (a_least 0) f_self] A) args s 0 0 A) D classes A 8 117 [wd_Md K a_self (a_least 0) s_self] [(0, .ref (a_self 0)), (1, .int v1), (2, .int v2), (3, .int v3), (4, .int v4)] []) (h : f_Md_stretches_95 N kb kx117 s_self v1 v2 v3 v4 v5 k0 = some (r, f_self)) : Gd p l e rm_Md_stretches s m args below meth c 0 0 (MQ below (sq D classes (tyK K) (some (.int r)) [wd_Md K a_self (a_least 0) f_self] A) args s 0 0 A) D classes A 8 95 [wd_Md K a_self (a_least 0) s_self] [(0, .ref (a_self 0)), (1, .int v1), (2, .int v2), (3, .int v3), (4, .int v4), (5, .int v5)] [.int k0] := by
  unfold f_Md_stretches_95 at h
  refine gd_istore X (lv' := [(7, .int k0), (0, .ref (a_self 0)), (1, .int v1), (2, .int v2), (3, .int v3), (4, .int v4), (5, .int v5)]) d_Md_stretches_95 (by decide) rfl ?_
  refine gd_iload X d_Md_stretches_97 0 rfl ?_
  refine gd_iload_n X d_Md_stretches_99 3 rfl ?_
  refine gd_icmp_ne X (tgt := 109) d_Md_stretches_100 (by decide) (fun c_1 => ?_) (fun c_1 => ?_)
  · replace h := it_n c_1 h
    refine gd_iload_n X d_Md_stretches_109 4 rfl ?_
    refine gd_istore_n X (lv' := [(3, .int v3), (7, .int k0), (0, .ref (a_self 0)), (1, .int v1), (2, .int v2), (4, .int v4), (5, .int v5)]) d_Md_stretches_110 rfl (by decide) rfl ?_
    obtain ⟨v5_2, ev5_2, h⟩ := nm_e' h
    refine gd_iinc X (v := v5_2) (lv' := [(5, .int v5_2), (3, .int v3), (7, .int k0), (0, .ref (a_self 0)), (1, .int v1), (2, .int v2), (4, .int v4)]) d_Md_stretches_111 (k := 6) rfl (by rw [ev5_2]; rfl) (by decide) rfl ?_
    refine gd_goto X (tgt := 48) d_Md_stretches_114 (by decide) ?_
    refine gd_loc (lv' := [(0, .ref (a_self 0)), (1, .int v1), (2, .int v2), (3, .int v3), (4, .int v4), (5, .int v5_2)]) [3, 4, 5, 1, 6, 0] rfl ?_
    exact hkb v3 v5_2 h
  · replace h := it_p c_1 h
    refine gd_iload_n X d_Md_stretches_103 4 rfl ?_
    refine gd_iconst X (v := 1) d_Md_stretches_104 (by decide) ?_
    refine gd_iadd X d_Md_stretches_105 ?_
    refine gd_goto X (tgt := 110) d_Md_stretches_106 (by decide) ?_
    obtain ⟨v3_3, ev3_3, h⟩ := nm_e' h
    refine gd_topi ev3_3 ?_
    refine gd_istore_n X (lv' := [(3, .int v3_3), (7, .int k0), (0, .ref (a_self 0)), (1, .int v1), (2, .int v2), (4, .int v4), (5, .int v5)]) d_Md_stretches_110 rfl (by decide) rfl ?_
    obtain ⟨v5_4, ev5_4, h⟩ := nm_e' h
    refine gd_iinc X (v := v5_4) (lv' := [(5, .int v5_4), (3, .int v3_3), (7, .int k0), (0, .ref (a_self 0)), (1, .int v1), (2, .int v2), (4, .int v4)]) d_Md_stretches_111 (k := 6) rfl (by rw [ev5_4]; rfl) (by decide) rfl ?_
    refine gd_goto X (tgt := 48) d_Md_stretches_114 (by decide) ?_
    refine gd_loc (lv' := [(0, .ref (a_self 0)), (1, .int v1), (2, .int v2), (3, .int v3_3), (4, .int v4), (5, .int v5_4)]) [3, 4, 5, 1, 6, 0] rfl ?_
    exact hkb v3_3 v5_4 h
def f_Md_stretches_48 (N : Nat) (kb : Int32 → Int32 → Option ((Int32) × (Nat → Nat → Int32))) (kx117 : Int32 → Option ((Int32) × (Nat → Nat → Int32))) (s_self : Nat → Nat → Int32) (v1 v2 v3 v4 v5 : Int32) : Option ((Int32) × (Nat → Nat → Int32)) :=
  if (s_self 0 10) < v5 then
    kx117 v3
  else
    bd1 (m_Md_cellOf v1 v4 v5) fun r_2 =>
    ck r_2 936 <|
    nm (s_self 7 (Int32.toNatClampNeg r_2)) fun v6_5 =>
    if v6_5 = (-3) then
      f_Md_stretches_95 N kb kx117 s_self v1 v2 v3 v4 v5 3
    else
      if v6_5 ≤ 1 then
        f_Md_stretches_95 N kb kx117 s_self v1 v2 v3 v4 v5 v6_5
      else
        f_Md_stretches_95 N kb kx117 s_self v1 v2 v3 v4 v5 2
set_option maxHeartbeats 4000000 in
set_option maxRecDepth 100000 in
theorem t_Md_stretches_48 {p : Program} {l : Launch} {e : Env} {s : State} {m : MethodId} {args : Array Value} {below : List Frame} {meth : Method} {c : Code} {A : Nat → Prop} {D : va_G} {K : Nat → ClassId} (a_self a_least : Nat → Nat) (X : gx p s m args c b_Md_stretches 8 R_Md w_Md_stretches D classes (tyK K) A) (hr : meth.sig.returnType = some .int) (hlk : meth.locks = false) (N : Nat) (r : Int32) (f_self : Nat → Nat → Int32) (s_self : Nat → Nat → Int32) (v1 v2 v3 v4 v5 : Int32) (kb : Int32 → Int32 → Option ((Int32) × (Nat → Nat → Int32))) (hkb : ∀ (v3 v5 : Int32), kb v3 v5 = some (r, f_self) → Gd p l e rm_Md_stretches s m args below meth c 0 0 (MQ below (sq D classes (tyK K) (some (.int r)) [wd_Md K a_self (a_least 0) f_self] A) args s 0 0 A) D classes A 8 48 [wd_Md K a_self (a_least 0) s_self] [(0, .ref (a_self 0)), (1, .int v1), (2, .int v2), (3, .int v3), (4, .int v4), (5, .int v5)] []) (kx117 : Int32 → Option ((Int32) × (Nat → Nat → Int32))) (hkx117 : ∀ (v3 : Int32), kx117 v3 = some (r, f_self) → Gd p l e rm_Md_stretches s m args below meth c 0 0 (MQ below (sq D classes (tyK K) (some (.int r)) [wd_Md K a_self (a_least 0) f_self] A) args s 0 0 A) D classes A 8 117 [wd_Md K a_self (a_least 0) s_self] [(0, .ref (a_self 0)), (1, .int v1), (2, .int v2), (3, .int v3), (4, .int v4)] []) (h : f_Md_stretches_48 N kb kx117 s_self v1 v2 v3 v4 v5 = some (r, f_self)) : Gd p l e rm_Md_stretches s m args below meth c 0 0 (MQ below (sq D classes (tyK K) (some (.int r)) [wd_Md K a_self (a_least 0) f_self] A) args s 0 0 A) D classes A 8 48 [wd_Md K a_self (a_least 0) s_self] [(0, .ref (a_self 0)), (1, .int v1), (2, .int v2), (3, .int v3), (4, .int v4), (5, .int v5)] [] := by
  unfold f_Md_stretches_48 at h
  refine gd_iload X d_Md_stretches_48 5 rfl ?_
  refine gd_aload_n X d_Md_stretches_50 0 rfl ?_
  refine gd_get X (ci := 7) (C := R_Md) (T := F_Md) (N := 36) (v := .int (s_self 0 10)) 0 0 rfl rfl rfl (in_Md _) 10 (by decide) (List.mem_cons_of_mem _ fl_Md_116) rfl rfl d_Md_stretches_51 ?_
  refine gd_icmp_gt X (tgt := 117) d_Md_stretches_54 (by decide) (fun c_1 => ?_) (fun c_1 => ?_)
  · replace h := it_p c_1 h
    refine gd_loc (lv' := [(0, .ref (a_self 0)), (1, .int v1), (2, .int v2), (3, .int v3), (4, .int v4)]) [0, 1, 2, 3, 4] rfl ?_
    exact hkx117 v3 h
  · replace h := it_n c_1 h
    refine gd_aload_n X d_Md_stretches_57 0 rfl ?_
    refine gd_get X (ci := 7) (C := R_Md) (T := F_Md) (N := 36) (v := .ref (a_self 7)) 0 0 rfl rfl rfl (in_Md _) 15 (by decide) (List.mem_cons_of_mem _ fl_Md_32) rfl rfl d_Md_stretches_58 ?_
    refine gd_iload_n X d_Md_stretches_61 1 rfl ?_
    refine gd_iload X d_Md_stretches_62 4 rfl ?_
    refine gd_iload X d_Md_stretches_64 5 rfl ?_
    obtain ⟨r_2, hc_3, h⟩ := bd1_e h
    refine gd_pI X (gd_Sc X (As := [.int v1, .int v4, .int v5]) (rest := [.ref (a_self 7)]) (c_Md_cellOf l D K v1 v4 v5 r_2 hc_3) 3 (gi_S ml_Md_138 u_Md_cellOf) rfl ⟨rfl, rfl⟩ (by decide +kernel) ⟨by decide, by decide⟩ rfl rfl (Nat.le_of_ble_eq_true rfl) ⟨Nat.zero_le _, Nat.zero_le _⟩ d_Md_stretches_66) [] rfl rfl ?_
    obtain ⟨hi_4, h⟩ := ck_e h
    refine gd_iald X 0 7 0 rfl rfl rfl hi_4 d_Md_stretches_69 ?_
    obtain ⟨v6_5, ev6_5, h⟩ := nm_e' h
    refine gd_topi ev6_5 ?_
    refine gd_istore X (lv' := [(6, .int v6_5), (0, .ref (a_self 0)), (1, .int v1), (2, .int v2), (3, .int v3), (4, .int v4), (5, .int v5)]) d_Md_stretches_70 (by decide) rfl ?_
    refine gd_iload X d_Md_stretches_72 0 rfl ?_
    refine gd_bipush X (v := (-3)) d_Md_stretches_74 (by decide) ?_
    refine gd_icmp_ne X (tgt := 83) d_Md_stretches_76 (by decide) (fun c_6 => ?_) (fun c_6 => ?_)
    · replace h := it_n c_6 h
      refine gd_iload X d_Md_stretches_83 0 rfl ?_
      refine gd_iconst X (v := 1) d_Md_stretches_85 (by decide) ?_
      refine gd_icmp_le X (tgt := 93) d_Md_stretches_86 (by decide) (fun c_7 => ?_) (fun c_7 => ?_)
      · replace h := it_p c_7 h
        refine gd_iload X d_Md_stretches_93 0 rfl ?_
        refine gd_loc (lv' := [(0, .ref (a_self 0)), (1, .int v1), (2, .int v2), (3, .int v3), (4, .int v4), (5, .int v5)]) [1, 2, 3, 4, 5, 6] rfl ?_
        exact t_Md_stretches_95 a_self a_least X hr hlk N r f_self s_self v1 v2 v3 v4 v5 v6_5 kb hkb kx117 hkx117 h
      · replace h := it_n c_7 h
        refine gd_iconst X (v := 2) d_Md_stretches_89 (by decide) ?_
        refine gd_goto X (tgt := 95) d_Md_stretches_90 (by decide) ?_
        refine gd_loc (lv' := [(0, .ref (a_self 0)), (1, .int v1), (2, .int v2), (3, .int v3), (4, .int v4), (5, .int v5)]) [1, 2, 3, 4, 5, 6] rfl ?_
        exact t_Md_stretches_95 a_self a_least X hr hlk N r f_self s_self v1 v2 v3 v4 v5 2 kb hkb kx117 hkx117 h
    · replace h := it_p c_6 h
      refine gd_iconst X (v := 3) d_Md_stretches_79 (by decide) ?_
      refine gd_goto X (tgt := 95) d_Md_stretches_80 (by decide) ?_
      refine gd_loc (lv' := [(0, .ref (a_self 0)), (1, .int v1), (2, .int v2), (3, .int v3), (4, .int v4), (5, .int v5)]) [1, 2, 3, 4, 5, 6] rfl ?_
      exact t_Md_stretches_95 a_self a_least X hr hlk N r f_self s_self v1 v2 v3 v4 v5 3 kb hkb kx117 hkx117 h
def f_Md_stretches_117 (N : Nat) (kb : Int32 → Int32 → Option ((Int32) × (Nat → Nat → Int32))) (kx123 : Int32 → Option ((Int32) × (Nat → Nat → Int32))) (s_self : Nat → Nat → Int32) (v1 v2 v3 v4 : Int32) : Option ((Int32) × (Nat → Nat → Int32)) :=
  nm (v4 + 1) fun v4_1 =>
  kb v3 v4_1
set_option maxHeartbeats 4000000 in
set_option maxRecDepth 100000 in
theorem t_Md_stretches_117 {p : Program} {l : Launch} {e : Env} {s : State} {m : MethodId} {args : Array Value} {below : List Frame} {meth : Method} {c : Code} {A : Nat → Prop} {D : va_G} {K : Nat → ClassId} (a_self a_least : Nat → Nat) (X : gx p s m args c b_Md_stretches 8 R_Md w_Md_stretches D classes (tyK K) A) (hr : meth.sig.returnType = some .int) (hlk : meth.locks = false) (N : Nat) (r : Int32) (f_self : Nat → Nat → Int32) (s_self : Nat → Nat → Int32) (v1 v2 v3 v4 : Int32) (kb : Int32 → Int32 → Option ((Int32) × (Nat → Nat → Int32))) (hkb : ∀ (v3 v4 : Int32), kb v3 v4 = some (r, f_self) → Gd p l e rm_Md_stretches s m args below meth c 0 0 (MQ below (sq D classes (tyK K) (some (.int r)) [wd_Md K a_self (a_least 0) f_self] A) args s 0 0 A) D classes A 8 33 [wd_Md K a_self (a_least 0) s_self] [(0, .ref (a_self 0)), (1, .int v1), (2, .int v2), (3, .int v3), (4, .int v4)] []) (kx123 : Int32 → Option ((Int32) × (Nat → Nat → Int32))) (hkx123 : ∀ (v3 : Int32), kx123 v3 = some (r, f_self) → Gd p l e rm_Md_stretches s m args below meth c 0 0 (MQ below (sq D classes (tyK K) (some (.int r)) [wd_Md K a_self (a_least 0) f_self] A) args s 0 0 A) D classes A 8 123 [wd_Md K a_self (a_least 0) s_self] [(3, .int v3)] []) (h : f_Md_stretches_117 N kb kx123 s_self v1 v2 v3 v4 = some (r, f_self)) : Gd p l e rm_Md_stretches s m args below meth c 0 0 (MQ below (sq D classes (tyK K) (some (.int r)) [wd_Md K a_self (a_least 0) f_self] A) args s 0 0 A) D classes A 8 117 [wd_Md K a_self (a_least 0) s_self] [(0, .ref (a_self 0)), (1, .int v1), (2, .int v2), (3, .int v3), (4, .int v4)] [] := by
  unfold f_Md_stretches_117 at h
  obtain ⟨v4_1, ev4_1, h⟩ := nm_e' h
  refine gd_iinc X (v := v4_1) (lv' := [(4, .int v4_1), (0, .ref (a_self 0)), (1, .int v1), (2, .int v2), (3, .int v3)]) d_Md_stretches_117 (k := 4) rfl (by rw [ev4_1]; rfl) (by decide) rfl ?_
  refine gd_goto X (tgt := 33) d_Md_stretches_120 (by decide) ?_
  refine gd_loc (lv' := [(0, .ref (a_self 0)), (1, .int v1), (2, .int v2), (3, .int v3), (4, .int v4_1)]) [1, 2, 3, 4, 0] rfl ?_
  exact hkb v3 v4_1 h
def l_Md_stretches_48 (N : Nat) (s_self : Nat → Nat → Int32) (v1 v2 v4 : Int32) (kx117 : Int32 → Option ((Int32) × (Nat → Nat → Int32))) : Nat → Int32 → Int32 → Option ((Int32) × (Nat → Nat → Int32))
  | 0, _, _ => none
  | n + 1, v3, v5 => f_Md_stretches_48 N (l_Md_stretches_48 N s_self v1 v2 v4 kx117 n) kx117 s_self v1 v2 v3 v4 v5
set_option maxHeartbeats 4000000 in
set_option maxRecDepth 100000 in
theorem tl_Md_stretches_48 {p : Program} {l : Launch} {e : Env} {s : State} {m : MethodId} {args : Array Value} {below : List Frame} {meth : Method} {c : Code} {A : Nat → Prop} {D : va_G} {K : Nat → ClassId} (a_self a_least : Nat → Nat) (X : gx p s m args c b_Md_stretches 8 R_Md w_Md_stretches D classes (tyK K) A) (hr : meth.sig.returnType = some .int) (hlk : meth.locks = false) (N : Nat) (r : Int32) (f_self : Nat → Nat → Int32) (s_self : Nat → Nat → Int32) (v1 v2 v4 : Int32) (kx117 : Int32 → Option ((Int32) × (Nat → Nat → Int32))) (hkx117 : ∀ (v3 : Int32), kx117 v3 = some (r, f_self) → Gd p l e rm_Md_stretches s m args below meth c 0 0 (MQ below (sq D classes (tyK K) (some (.int r)) [wd_Md K a_self (a_least 0) f_self] A) args s 0 0 A) D classes A 8 117 [wd_Md K a_self (a_least 0) s_self] [(0, .ref (a_self 0)), (1, .int v1), (2, .int v2), (3, .int v3), (4, .int v4)] []) : ∀ (n : Nat) (v3 v5 : Int32), l_Md_stretches_48 N s_self v1 v2 v4 kx117 n v3 v5 = some (r, f_self) → Gd p l e rm_Md_stretches s m args below meth c 0 0 (MQ below (sq D classes (tyK K) (some (.int r)) [wd_Md K a_self (a_least 0) f_self] A) args s 0 0 A) D classes A 8 48 [wd_Md K a_self (a_least 0) s_self] [(0, .ref (a_self 0)), (1, .int v1), (2, .int v2), (3, .int v3), (4, .int v4), (5, .int v5)] [] := by
  intro n
  induction n with
  | zero => intro v3 v5 h; have h : (none : Option ((Int32) × (Nat → Nat → Int32))) = some _ := h; cases h
  | succ n ih =>
    intro v3 v5 h
    exact t_Md_stretches_48 a_self a_least X hr hlk N r f_self s_self v1 v2 v3 v4 v5 (l_Md_stretches_48 N s_self v1 v2 v4 kx117 n) ih kx117 hkx117 h
def f_Md_stretches_33 (N : Nat) (kb : Int32 → Int32 → Option ((Int32) × (Nat → Nat → Int32))) (kx123 : Int32 → Option ((Int32) × (Nat → Nat → Int32))) (s_self : Nat → Nat → Int32) (v1 v2 v3 v4 : Int32) : Option ((Int32) × (Nat → Nat → Int32)) :=
  if (s_self 0 10) ≤ v4 then
    kx123 v3
  else
    nm (v4 + 1) fun v5_2 =>
    l_Md_stretches_48 N s_self v1 v2 v4 (fun v3 => f_Md_stretches_117 N kb kx123 s_self v1 v2 v3 v4) N v3 v5_2
set_option maxHeartbeats 4000000 in
set_option maxRecDepth 100000 in
theorem t_Md_stretches_33 {p : Program} {l : Launch} {e : Env} {s : State} {m : MethodId} {args : Array Value} {below : List Frame} {meth : Method} {c : Code} {A : Nat → Prop} {D : va_G} {K : Nat → ClassId} (a_self a_least : Nat → Nat) (X : gx p s m args c b_Md_stretches 8 R_Md w_Md_stretches D classes (tyK K) A) (hr : meth.sig.returnType = some .int) (hlk : meth.locks = false) (N : Nat) (r : Int32) (f_self : Nat → Nat → Int32) (s_self : Nat → Nat → Int32) (v1 v2 v3 v4 : Int32) (kb : Int32 → Int32 → Option ((Int32) × (Nat → Nat → Int32))) (hkb : ∀ (v3 v4 : Int32), kb v3 v4 = some (r, f_self) → Gd p l e rm_Md_stretches s m args below meth c 0 0 (MQ below (sq D classes (tyK K) (some (.int r)) [wd_Md K a_self (a_least 0) f_self] A) args s 0 0 A) D classes A 8 33 [wd_Md K a_self (a_least 0) s_self] [(0, .ref (a_self 0)), (1, .int v1), (2, .int v2), (3, .int v3), (4, .int v4)] []) (kx123 : Int32 → Option ((Int32) × (Nat → Nat → Int32))) (hkx123 : ∀ (v3 : Int32), kx123 v3 = some (r, f_self) → Gd p l e rm_Md_stretches s m args below meth c 0 0 (MQ below (sq D classes (tyK K) (some (.int r)) [wd_Md K a_self (a_least 0) f_self] A) args s 0 0 A) D classes A 8 123 [wd_Md K a_self (a_least 0) s_self] [(3, .int v3)] []) (h : f_Md_stretches_33 N kb kx123 s_self v1 v2 v3 v4 = some (r, f_self)) : Gd p l e rm_Md_stretches s m args below meth c 0 0 (MQ below (sq D classes (tyK K) (some (.int r)) [wd_Md K a_self (a_least 0) f_self] A) args s 0 0 A) D classes A 8 33 [wd_Md K a_self (a_least 0) s_self] [(0, .ref (a_self 0)), (1, .int v1), (2, .int v2), (3, .int v3), (4, .int v4)] [] := by
  unfold f_Md_stretches_33 at h
  refine gd_iload X d_Md_stretches_33 4 rfl ?_
  refine gd_aload_n X d_Md_stretches_35 0 rfl ?_
  refine gd_get X (ci := 7) (C := R_Md) (T := F_Md) (N := 36) (v := .int (s_self 0 10)) 0 0 rfl rfl rfl (in_Md _) 10 (by decide) (List.mem_cons_of_mem _ fl_Md_116) rfl rfl d_Md_stretches_36 ?_
  refine gd_icmp_ge X (tgt := 123) d_Md_stretches_39 (by decide) (fun c_1 => ?_) (fun c_1 => ?_)
  · replace h := it_p c_1 h
    refine gd_loc (lv' := [(3, .int v3)]) [3] rfl ?_
    exact hkx123 v3 h
  · replace h := it_n c_1 h
    refine gd_iload X d_Md_stretches_42 4 rfl ?_
    refine gd_iconst X (v := 1) d_Md_stretches_44 (by decide) ?_
    refine gd_iadd X d_Md_stretches_45 ?_
    obtain ⟨v5_2, ev5_2, h⟩ := nm_e' h
    refine gd_topi ev5_2 ?_
    refine gd_istore X (lv' := [(5, .int v5_2), (0, .ref (a_self 0)), (1, .int v1), (2, .int v2), (3, .int v3), (4, .int v4)]) d_Md_stretches_46 (by decide) rfl ?_
    refine gd_loc (lv' := [(0, .ref (a_self 0)), (1, .int v1), (2, .int v2), (3, .int v3), (4, .int v4), (5, .int v5_2)]) [1, 2, 3, 4, 5, 0] rfl ?_
    exact tl_Md_stretches_48 a_self a_least X hr hlk N r f_self s_self v1 v2 v4 (fun v3 => f_Md_stretches_117 N kb kx123 s_self v1 v2 v3 v4) (fun v3 h => t_Md_stretches_117 a_self a_least X hr hlk N r f_self s_self v1 v2 v3 v4 kb hkb kx123 hkx123 h) N v3 v5_2 h
def f_Md_stretches_123 (N : Nat) (s_self : Nat → Nat → Int32) (v3 : Int32) : Option ((Int32) × (Nat → Nat → Int32)) :=
  some ((v3), s_self)
set_option maxHeartbeats 4000000 in
set_option maxRecDepth 100000 in
theorem t_Md_stretches_123 {p : Program} {l : Launch} {e : Env} {s : State} {m : MethodId} {args : Array Value} {below : List Frame} {meth : Method} {c : Code} {A : Nat → Prop} {D : va_G} {K : Nat → ClassId} (a_self a_least : Nat → Nat) (X : gx p s m args c b_Md_stretches 8 R_Md w_Md_stretches D classes (tyK K) A) (hr : meth.sig.returnType = some .int) (hlk : meth.locks = false) (N : Nat) (r : Int32) (f_self : Nat → Nat → Int32) (s_self : Nat → Nat → Int32) (v3 : Int32) (h : f_Md_stretches_123 N s_self v3 = some (r, f_self)) : Gd p l e rm_Md_stretches s m args below meth c 0 0 (MQ below (sq D classes (tyK K) (some (.int r)) [wd_Md K a_self (a_least 0) f_self] A) args s 0 0 A) D classes A 8 123 [wd_Md K a_self (a_least 0) s_self] [(3, .int v3)] [] := by
  unfold f_Md_stretches_123 at h
  refine gd_iload_n X d_Md_stretches_123 0 rfl ?_
  cases h
  exact gd_iret X hr hlk d_Md_stretches_124
def l_Md_stretches_33 (N : Nat) (s_self : Nat → Nat → Int32) (v1 v2 : Int32) (kx123 : Int32 → Option ((Int32) × (Nat → Nat → Int32))) : Nat → Int32 → Int32 → Option ((Int32) × (Nat → Nat → Int32))
  | 0, _, _ => none
  | n + 1, v3, v4 => f_Md_stretches_33 N (l_Md_stretches_33 N s_self v1 v2 kx123 n) kx123 s_self v1 v2 v3 v4
set_option maxHeartbeats 4000000 in
set_option maxRecDepth 100000 in
theorem tl_Md_stretches_33 {p : Program} {l : Launch} {e : Env} {s : State} {m : MethodId} {args : Array Value} {below : List Frame} {meth : Method} {c : Code} {A : Nat → Prop} {D : va_G} {K : Nat → ClassId} (a_self a_least : Nat → Nat) (X : gx p s m args c b_Md_stretches 8 R_Md w_Md_stretches D classes (tyK K) A) (hr : meth.sig.returnType = some .int) (hlk : meth.locks = false) (N : Nat) (r : Int32) (f_self : Nat → Nat → Int32) (s_self : Nat → Nat → Int32) (v1 v2 : Int32) (kx123 : Int32 → Option ((Int32) × (Nat → Nat → Int32))) (hkx123 : ∀ (v3 : Int32), kx123 v3 = some (r, f_self) → Gd p l e rm_Md_stretches s m args below meth c 0 0 (MQ below (sq D classes (tyK K) (some (.int r)) [wd_Md K a_self (a_least 0) f_self] A) args s 0 0 A) D classes A 8 123 [wd_Md K a_self (a_least 0) s_self] [(3, .int v3)] []) : ∀ (n : Nat) (v3 v4 : Int32), l_Md_stretches_33 N s_self v1 v2 kx123 n v3 v4 = some (r, f_self) → Gd p l e rm_Md_stretches s m args below meth c 0 0 (MQ below (sq D classes (tyK K) (some (.int r)) [wd_Md K a_self (a_least 0) f_self] A) args s 0 0 A) D classes A 8 33 [wd_Md K a_self (a_least 0) s_self] [(0, .ref (a_self 0)), (1, .int v1), (2, .int v2), (3, .int v3), (4, .int v4)] [] := by
  intro n
  induction n with
  | zero => intro v3 v4 h; have h : (none : Option ((Int32) × (Nat → Nat → Int32))) = some _ := h; cases h
  | succ n ih =>
    intro v3 v4 h
    exact t_Md_stretches_33 a_self a_least X hr hlk N r f_self s_self v1 v2 v3 v4 (l_Md_stretches_33 N s_self v1 v2 kx123 n) ih kx123 hkx123 h
def f_Md_stretches_0 (N : Nat) (s_self : Nat → Nat → Int32) (v1 v2 : Int32) : Option ((Int32) × (Nat → Nat → Int32)) :=
  nm (st2 s_self 0 0 0) fun s_self_1 =>
  bd1 (m_Md_isSort s_self_1 v1) fun r_2 =>
  if r_2 = 0 then
    some (((-1)), s_self_1)
  else
    if v2 < 0 then
      some (((-1)), s_self_1)
    else
      if v2 ≤ 3 then
        bd1 (m_Md_know N s_self_1) fun s_self_7 =>
        l_Md_stretches_33 N s_self_7 v1 v2 (fun v3 => f_Md_stretches_123 N s_self_7 v3) N 0 0
      else
        some (((-1)), s_self_1)
set_option maxHeartbeats 4000000 in
set_option maxRecDepth 100000 in
theorem t_Md_stretches_0 {p : Program} {l : Launch} {e : Env} {s : State} {m : MethodId} {args : Array Value} {below : List Frame} {meth : Method} {c : Code} {A : Nat → Prop} {D : va_G} {K : Nat → ClassId} (a_self a_least : Nat → Nat) (X : gx p s m args c b_Md_stretches 8 R_Md w_Md_stretches D classes (tyK K) A) (hr : meth.sig.returnType = some .int) (hlk : meth.locks = false) (N : Nat) (r : Int32) (f_self : Nat → Nat → Int32) (s_self : Nat → Nat → Int32) (v1 v2 : Int32) (h : f_Md_stretches_0 N s_self v1 v2 = some (r, f_self)) : Gd p l e rm_Md_stretches s m args below meth c 0 0 (MQ below (sq D classes (tyK K) (some (.int r)) [wd_Md K a_self (a_least 0) f_self] A) args s 0 0 A) D classes A 8 0 [wd_Md K a_self (a_least 0) s_self] [(0, .ref (a_self 0)), (1, .int v1), (2, .int v2)] [] := by
  unfold f_Md_stretches_0 at h
  refine gd_aload_n X d_Md_stretches_0 0 rfl ?_
  refine gd_iconst X (v := 0) d_Md_stretches_1 (by decide) ?_
  obtain ⟨s_self_1, es_self_1, h⟩ := nm_e' h
  refine gd_put X (ci := 7) (C := R_Md) (T := F_Md) (N := 36) (ty := .int) (w' := [wd_Md K a_self (a_least 0) s_self_1]) 0 0 rfl rfl rfl (in_Md _) t_Md t_Md_ok n_Md 0 (by decide) (List.mem_cons_of_mem _ fl_Md_86) rfl rfl (by decide +kernel) rfl rfl (Nat.le_of_ble_eq_true rfl) d_Md_stretches_2 (by rw [es_self_1]; rfl) ?_
  refine gd_aload_n X d_Md_stretches_5 0 rfl ?_
  refine gd_iload_n X d_Md_stretches_6 1 rfl ?_
  obtain ⟨r_2, hc_3, h⟩ := bd1_e h
  refine gd_fI X (gd_V X (As := [.int v1]) (rest := []) (c_Md_isSort l D K a_self a_least s_self_1 v1 r_2 hc_3) 1 (gi_V ml_Md_99 u_Md_isSort) rfl ⟨rfl, rfl⟩ (by decide +kernel) ⟨by decide, by decide⟩ (ci := 7) rfl rfl rfl rfl rfl rfl (Nat.le_of_ble_eq_true rfl) ⟨Nat.zero_le _, Nat.zero_le _⟩ d_Md_stretches_7) ?_
  refine gd_if_eq X (tgt := 22) d_Md_stretches_10 (by decide) (fun c_4 => ?_) (fun c_4 => ?_)
  · replace h := it_p c_4 h
    refine gd_iconst X (v := (-1)) d_Md_stretches_22 (by decide) ?_
    cases h
    exact gd_iret X hr hlk d_Md_stretches_23
  · replace h := it_n c_4 h
    refine gd_iload_n X d_Md_stretches_13 2 rfl ?_
    refine gd_if_lt X (tgt := 22) d_Md_stretches_14 (by decide) (fun c_5 => ?_) (fun c_5 => ?_)
    · replace h := it_p c_5 h
      refine gd_iconst X (v := (-1)) d_Md_stretches_22 (by decide) ?_
      cases h
      exact gd_iret X hr hlk d_Md_stretches_23
    · replace h := it_n c_5 h
      refine gd_iload_n X d_Md_stretches_17 2 rfl ?_
      refine gd_iconst X (v := 3) d_Md_stretches_18 (by decide) ?_
      refine gd_icmp_le X (tgt := 24) d_Md_stretches_19 (by decide) (fun c_6 => ?_) (fun c_6 => ?_)
      · replace h := it_p c_6 h
        refine gd_aload_n X d_Md_stretches_24 0 rfl ?_
        obtain ⟨s_self_7, hc_8, h⟩ := bd1_e h
        refine gd_fv X (w1 := [wd_Md K a_self (a_least 0) s_self_7]) (gd_V X (As := []) (rest := []) (c_Md_know l D K a_self a_least N s_self_1 s_self_7 hc_8) 0 (gi_V ml_Md_192 u_Md_know) rfl ⟨rfl, rfl⟩ (by decide +kernel) ⟨by decide, by decide⟩ (ci := 7) rfl rfl rfl rfl rfl rfl (Nat.le_of_ble_eq_true rfl) ⟨Nat.zero_le _, Nat.zero_le _⟩ d_Md_stretches_25) ?_
        refine gd_iconst X (v := 0) d_Md_stretches_28 (by decide) ?_
        refine gd_istore_n X (lv' := [(3, .int 0), (0, .ref (a_self 0)), (1, .int v1), (2, .int v2)]) d_Md_stretches_29 rfl (by decide) rfl ?_
        refine gd_iconst X (v := 0) d_Md_stretches_30 (by decide) ?_
        refine gd_istore X (lv' := [(4, .int 0), (3, .int 0), (0, .ref (a_self 0)), (1, .int v1), (2, .int v2)]) d_Md_stretches_31 (by decide) rfl ?_
        refine gd_loc (lv' := [(0, .ref (a_self 0)), (1, .int v1), (2, .int v2), (3, .int 0), (4, .int 0)]) [2, 3, 4, 1, 0] rfl ?_
        exact tl_Md_stretches_33 a_self a_least X hr hlk N r f_self s_self_7 v1 v2 (fun v3 => f_Md_stretches_123 N s_self_7 v3) (fun v3 h => t_Md_stretches_123 a_self a_least X hr hlk N r f_self s_self_7 v3 h) N 0 0 h
      · replace h := it_n c_6 h
        refine gd_iconst X (v := (-1)) d_Md_stretches_22 (by decide) ?_
        cases h
        exact gd_iret X hr hlk d_Md_stretches_23
def m_Md_stretches (N : Nat) (s_self : Nat → Nat → Int32) (v1 v2 : Int32) : Option ((Int32) × (Nat → Nat → Int32)) := f_Md_stretches_0 N s_self v1 v2
set_option maxHeartbeats 4000000 in
set_option maxRecDepth 100000 in
theorem c_Md_stretches (l : Launch) (D : va_G) (K : Nat → ClassId) (a_self a_least : Nat → Nat) (N : Nat) (s_self : Nat → Nat → Int32) (v1 v2 : Int32) (r : Int32) (f_self : Nat → Nat → Int32) (h : m_Md_stretches N s_self v1 v2 = some (r, f_self)) : SMet l y_Md_stretches w_Md_stretches rm_Md_stretches D classes (tyK K) [.ref (a_self 0), .int v1, .int v2] (some (.int r)) [wd_Md K a_self (a_least 0) s_self] [wd_Md K a_self (a_least 0) f_self] := by
  refine sm_of R_Md (by decide) rfl rfl (Nat.le_of_ble_eq_true rfl) ?_
  intro p e s m below meth c A X hr hlk
  refine gd_loc (lv' := [(0, .ref (a_self 0)), (1, .int v1), (2, .int v2)]) [0, 1, 2] rfl ?_
  exact t_Md_stretches_0 a_self a_least X hr hlk N r f_self s_self v1 v2 h
abbrev b_Md_type : ByteArray := prog_10_method_37_code
def y_Md_type : MethodName := ⟨R_Md, "type", "(I)I"⟩
def w_Md_type : List Cond := .code y_Md_type b_Md_type 2 (some .int) :: TB
theorem k_Md_type : Cond.code y_Md_type b_Md_type 2 (some .int) ∈ TB := tb_of 969 (by decide +kernel) (by decide +kernel)
theorem d_Md_type_0 : decode b_Md_type 0 = .ok (.aload_n 0, 1) := by decide +kernel
theorem d_Md_type_1 : decode b_Md_type 1 = .ok (.iconst 0, 1) := by decide +kernel
theorem d_Md_type_2 : decode b_Md_type 2 = .ok (.putfield 86, 3) := by decide +kernel
theorem d_Md_type_5 : decode b_Md_type 5 = .ok (.aload_n 0, 1) := by decide +kernel
theorem d_Md_type_6 : decode b_Md_type 6 = .ok (.getfield 198, 3) := by decide +kernel
theorem d_Md_type_9 : decode b_Md_type 9 = .ok (.sipush 200, 3) := by decide +kernel
theorem d_Md_type_12 : decode b_Md_type 12 = .ok (.if_icmp .ne 5, 3) := by decide +kernel
theorem d_Md_type_15 : decode b_Md_type 15 = .ok (.iconst (-1), 1) := by decide +kernel
theorem d_Md_type_16 : decode b_Md_type 16 = .ok (.ireturn, 1) := by decide +kernel
theorem d_Md_type_17 : decode b_Md_type 17 = .ok (.aload_n 0, 1) := by decide +kernel
theorem d_Md_type_18 : decode b_Md_type 18 = .ok (.getfield 25, 3) := by decide +kernel
theorem d_Md_type_21 : decode b_Md_type 21 = .ok (.aload_n 0, 1) := by decide +kernel
theorem d_Md_type_22 : decode b_Md_type 22 = .ok (.getfield 198, 3) := by decide +kernel
theorem d_Md_type_25 : decode b_Md_type 25 = .ok (.iload_n 1, 1) := by decide +kernel
theorem d_Md_type_26 : decode b_Md_type 26 = .ok (.iastore, 1) := by decide +kernel
theorem d_Md_type_27 : decode b_Md_type 27 = .ok (.aload_n 0, 1) := by decide +kernel
theorem d_Md_type_28 : decode b_Md_type 28 = .ok (.dup, 1) := by decide +kernel
theorem d_Md_type_29 : decode b_Md_type 29 = .ok (.getfield 198, 3) := by decide +kernel
theorem d_Md_type_32 : decode b_Md_type 32 = .ok (.iconst 1, 1) := by decide +kernel
theorem d_Md_type_33 : decode b_Md_type 33 = .ok (.iadd, 1) := by decide +kernel
theorem d_Md_type_34 : decode b_Md_type 34 = .ok (.putfield 198, 3) := by decide +kernel
theorem d_Md_type_37 : decode b_Md_type 37 = .ok (.aload_n 0, 1) := by decide +kernel
theorem d_Md_type_38 : decode b_Md_type 38 = .ok (.getfield 198, 3) := by decide +kernel
theorem d_Md_type_41 : decode b_Md_type 41 = .ok (.ireturn, 1) := by decide +kernel
theorem fl_Md_198 : Cond.fieldLink R_Md 198 "RuleTreesModel" "codes" "I" ∈ TB := tb_of 732 (by decide +kernel) (by decide +kernel)
theorem fl_Md_25 : Cond.fieldLink R_Md 25 "RuleTreesModel" "tape" "[I" ∈ TB := tb_of 731 (by decide +kernel) (by decide +kernel)
abbrev rm_Md_type : Room := { frames := 0, cells := 0, slots := 0, locals := 0 }
def f_Md_type_0 (s_self : Nat → Nat → Int32) (v1 : Int32) : Option ((Int32) × (Nat → Nat → Int32)) :=
  nm (st2 s_self 0 0 0) fun s_self_1 =>
  if (s_self_1 0 12) = 200 then
    some (((-1)), s_self_1)
  else
    ck (s_self_1 0 12) 200 <| nm (st2 s_self_1 6 (Int32.toNatClampNeg (s_self_1 0 12)) v1) fun s_self_4 =>
    nm (st2 s_self_4 0 12 ((s_self_4 0 12) + 1)) fun s_self_5 =>
    some ((s_self_5 0 12), s_self_5)
set_option maxHeartbeats 4000000 in
set_option maxRecDepth 100000 in
theorem t_Md_type_0 {p : Program} {l : Launch} {e : Env} {s : State} {m : MethodId} {args : Array Value} {below : List Frame} {meth : Method} {c : Code} {A : Nat → Prop} {D : va_G} {K : Nat → ClassId} (a_self a_least : Nat → Nat) (X : gx p s m args c b_Md_type 2 R_Md w_Md_type D classes (tyK K) A) (hr : meth.sig.returnType = some .int) (hlk : meth.locks = false) (r : Int32) (f_self : Nat → Nat → Int32) (s_self : Nat → Nat → Int32) (v1 : Int32) (h : f_Md_type_0 s_self v1 = some (r, f_self)) : Gd p l e rm_Md_type s m args below meth c 0 0 (MQ below (sq D classes (tyK K) (some (.int r)) [wd_Md K a_self (a_least 0) f_self] A) args s 0 0 A) D classes A 2 0 [wd_Md K a_self (a_least 0) s_self] [(0, .ref (a_self 0)), (1, .int v1)] [] := by
  unfold f_Md_type_0 at h
  refine gd_aload_n X d_Md_type_0 0 rfl ?_
  refine gd_iconst X (v := 0) d_Md_type_1 (by decide) ?_
  obtain ⟨s_self_1, es_self_1, h⟩ := nm_e' h
  refine gd_put X (ci := 7) (C := R_Md) (T := F_Md) (N := 36) (ty := .int) (w' := [wd_Md K a_self (a_least 0) s_self_1]) 0 0 rfl rfl rfl (in_Md _) t_Md t_Md_ok n_Md 0 (by decide) (List.mem_cons_of_mem _ fl_Md_86) rfl rfl (by decide +kernel) rfl rfl (Nat.le_of_ble_eq_true rfl) d_Md_type_2 (by rw [es_self_1]; rfl) ?_
  refine gd_aload_n X d_Md_type_5 0 rfl ?_
  refine gd_get X (ci := 7) (C := R_Md) (T := F_Md) (N := 36) (v := .int (s_self_1 0 12)) 0 0 rfl rfl rfl (in_Md _) 12 (by decide) (List.mem_cons_of_mem _ fl_Md_198) rfl rfl d_Md_type_6 ?_
  refine gd_sipush X (v := 200) d_Md_type_9 (by decide) ?_
  refine gd_icmp_ne X (tgt := 17) d_Md_type_12 (by decide) (fun c_2 => ?_) (fun c_2 => ?_)
  · replace h := it_n c_2 h
    refine gd_aload_n X d_Md_type_17 0 rfl ?_
    refine gd_get X (ci := 7) (C := R_Md) (T := F_Md) (N := 36) (v := .ref (a_self 6)) 0 0 rfl rfl rfl (in_Md _) 11 (by decide) (List.mem_cons_of_mem _ fl_Md_25) rfl rfl d_Md_type_18 ?_
    refine gd_aload_n X d_Md_type_21 0 rfl ?_
    refine gd_get X (ci := 7) (C := R_Md) (T := F_Md) (N := 36) (v := .int (s_self_1 0 12)) 0 0 rfl rfl rfl (in_Md _) 12 (by decide) (List.mem_cons_of_mem _ fl_Md_198) rfl rfl d_Md_type_22 ?_
    refine gd_iload_n X d_Md_type_25 1 rfl ?_
    obtain ⟨hi_3, h⟩ := ck_e h
    obtain ⟨s_self_4, es_self_4, h⟩ := nm_e' h
    refine gd_iast X (w' := [wd_Md K a_self (a_least 0) s_self_4]) 0 6 0 rfl rfl rfl hi_3 d_Md_type_26 (by rw [es_self_4]; rfl) ?_
    refine gd_aload_n X d_Md_type_27 0 rfl ?_
    refine gd_dup X d_Md_type_28 rfl ?_
    refine gd_get X (ci := 7) (C := R_Md) (T := F_Md) (N := 36) (v := .int (s_self_4 0 12)) 0 0 rfl rfl rfl (in_Md _) 12 (by decide) (List.mem_cons_of_mem _ fl_Md_198) rfl rfl d_Md_type_29 ?_
    refine gd_iconst X (v := 1) d_Md_type_32 (by decide) ?_
    refine gd_iadd X d_Md_type_33 ?_
    obtain ⟨s_self_5, es_self_5, h⟩ := nm_e' h
    refine gd_put X (ci := 7) (C := R_Md) (T := F_Md) (N := 36) (ty := .int) (w' := [wd_Md K a_self (a_least 0) s_self_5]) 0 0 rfl rfl rfl (in_Md _) t_Md t_Md_ok n_Md 12 (by decide) (List.mem_cons_of_mem _ fl_Md_198) rfl rfl (by decide +kernel) rfl rfl (Nat.le_of_ble_eq_true rfl) d_Md_type_34 (by rw [es_self_5]; rfl) ?_
    refine gd_aload_n X d_Md_type_37 0 rfl ?_
    refine gd_get X (ci := 7) (C := R_Md) (T := F_Md) (N := 36) (v := .int (s_self_5 0 12)) 0 0 rfl rfl rfl (in_Md _) 12 (by decide) (List.mem_cons_of_mem _ fl_Md_198) rfl rfl d_Md_type_38 ?_
    cases h
    exact gd_iret X hr hlk d_Md_type_41
  · replace h := it_p c_2 h
    refine gd_iconst X (v := (-1)) d_Md_type_15 (by decide) ?_
    cases h
    exact gd_iret X hr hlk d_Md_type_16
def m_Md_type (s_self : Nat → Nat → Int32) (v1 : Int32) : Option ((Int32) × (Nat → Nat → Int32)) := f_Md_type_0 s_self v1
set_option maxHeartbeats 4000000 in
set_option maxRecDepth 100000 in
theorem c_Md_type (l : Launch) (D : va_G) (K : Nat → ClassId) (a_self a_least : Nat → Nat) (s_self : Nat → Nat → Int32) (v1 : Int32) (r : Int32) (f_self : Nat → Nat → Int32) (h : m_Md_type s_self v1 = some (r, f_self)) : SMet l y_Md_type w_Md_type rm_Md_type D classes (tyK K) [.ref (a_self 0), .int v1] (some (.int r)) [wd_Md K a_self (a_least 0) s_self] [wd_Md K a_self (a_least 0) f_self] := by
  refine sm_of R_Md (by decide) rfl rfl (Nat.le_of_ble_eq_true rfl) ?_
  intro p e s m below meth c A X hr hlk
  refine gd_loc (lv' := [(0, .ref (a_self 0)), (1, .int v1)]) [0, 1] rfl ?_
  exact t_Md_type_0 a_self a_least X hr hlk r f_self s_self v1 h
