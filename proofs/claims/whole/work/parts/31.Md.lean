abbrev b_Md_variablesIn : ByteArray := prog_10_method_8_code
def y_Md_variablesIn : MethodName := ⟨R_Md, "variablesIn", "(I)I"⟩
def w_Md_variablesIn : List Cond := .code y_Md_variablesIn b_Md_variablesIn 4 (some .int) :: TB
theorem k_Md_variablesIn : Cond.code y_Md_variablesIn b_Md_variablesIn 4 (some .int) ∈ TB := tb_of 858 (by decide +kernel) (by decide +kernel)
theorem d_Md_variablesIn_0 : decode b_Md_variablesIn 0 = .ok (.iconst 0, 1) := by decide +kernel
theorem d_Md_variablesIn_1 : decode b_Md_variablesIn 1 = .ok (.istore_n 2, 1) := by decide +kernel
theorem d_Md_variablesIn_2 : decode b_Md_variablesIn 2 = .ok (.iconst 0, 1) := by decide +kernel
theorem d_Md_variablesIn_3 : decode b_Md_variablesIn 3 = .ok (.istore_n 3, 1) := by decide +kernel
theorem d_Md_variablesIn_4 : decode b_Md_variablesIn 4 = .ok (.iload_n 3, 1) := by decide +kernel
theorem d_Md_variablesIn_5 : decode b_Md_variablesIn 5 = .ok (.aload_n 0, 1) := by decide +kernel
theorem d_Md_variablesIn_6 : decode b_Md_variablesIn 6 = .ok (.getfield 16, 3) := by decide +kernel
theorem d_Md_variablesIn_9 : decode b_Md_variablesIn 9 = .ok (.iload_n 1, 1) := by decide +kernel
theorem d_Md_variablesIn_10 : decode b_Md_variablesIn 10 = .ok (.iaload, 1) := by decide +kernel
theorem d_Md_variablesIn_11 : decode b_Md_variablesIn 11 = .ok (.if_icmp .ge 31, 3) := by decide +kernel
theorem d_Md_variablesIn_14 : decode b_Md_variablesIn 14 = .ok (.aload_n 0, 1) := by decide +kernel
theorem d_Md_variablesIn_15 : decode b_Md_variablesIn 15 = .ok (.getfield 19, 3) := by decide +kernel
theorem d_Md_variablesIn_18 : decode b_Md_variablesIn 18 = .ok (.bipush 8, 2) := by decide +kernel
theorem d_Md_variablesIn_20 : decode b_Md_variablesIn 20 = .ok (.iload_n 1, 1) := by decide +kernel
theorem d_Md_variablesIn_21 : decode b_Md_variablesIn 21 = .ok (.imul, 1) := by decide +kernel
theorem d_Md_variablesIn_22 : decode b_Md_variablesIn 22 = .ok (.iload_n 3, 1) := by decide +kernel
theorem d_Md_variablesIn_23 : decode b_Md_variablesIn 23 = .ok (.iadd, 1) := by decide +kernel
theorem d_Md_variablesIn_24 : decode b_Md_variablesIn 24 = .ok (.iaload, 1) := by decide +kernel
theorem d_Md_variablesIn_25 : decode b_Md_variablesIn 25 = .ok (.ifCond .ge 9, 3) := by decide +kernel
theorem d_Md_variablesIn_28 : decode b_Md_variablesIn 28 = .ok (.iload_n 2, 1) := by decide +kernel
theorem d_Md_variablesIn_29 : decode b_Md_variablesIn 29 = .ok (.iconst 1, 1) := by decide +kernel
theorem d_Md_variablesIn_30 : decode b_Md_variablesIn 30 = .ok (.iadd, 1) := by decide +kernel
theorem d_Md_variablesIn_31 : decode b_Md_variablesIn 31 = .ok (.goto 4, 3) := by decide +kernel
theorem d_Md_variablesIn_34 : decode b_Md_variablesIn 34 = .ok (.iload_n 2, 1) := by decide +kernel
theorem d_Md_variablesIn_35 : decode b_Md_variablesIn 35 = .ok (.istore_n 2, 1) := by decide +kernel
theorem d_Md_variablesIn_36 : decode b_Md_variablesIn 36 = .ok (.iinc 3 1, 3) := by decide +kernel
theorem d_Md_variablesIn_39 : decode b_Md_variablesIn 39 = .ok (.goto (-35), 3) := by decide +kernel
theorem d_Md_variablesIn_42 : decode b_Md_variablesIn 42 = .ok (.iload_n 2, 1) := by decide +kernel
theorem d_Md_variablesIn_43 : decode b_Md_variablesIn 43 = .ok (.ireturn, 1) := by decide +kernel
theorem fl_Md_19 : Cond.fieldLink R_Md 19 "RuleTreesModel" "symbols" "[I" ∈ TB := tb_of 728 (by decide +kernel) (by decide +kernel)
abbrev rm_Md_variablesIn : Room := { frames := 0, cells := 0, slots := 0, locals := 0 }
def f_Md_variablesIn_4 (N : Nat) (kb : Int32 → Int32 → Option ((Int32))) (kx42 : Int32 → Option ((Int32))) (s_self : Nat → Nat → Int32) (v1 v2 v3 : Int32) : Option ((Int32)) :=
  ck v1 31 <|
  if (s_self 3 (Int32.toNatClampNeg v1)) ≤ v3 then
    kx42 v2
  else
    ck ((8 * v1) + v3) 248 <|
    if 0 ≤ (s_self 4 (Int32.toNatClampNeg ((8 * v1) + v3))) then
      nm (v3 + 1) fun v3_5 =>
      kb v2 v3_5
    else
      nm (v2 + 1) fun v2_6 =>
      nm (v3 + 1) fun v3_7 =>
      kb v2_6 v3_7
set_option maxHeartbeats 4000000 in
set_option maxRecDepth 100000 in
theorem t_Md_variablesIn_4 {p : Program} {l : Launch} {e : Env} {s : State} {m : MethodId} {args : Array Value} {below : List Frame} {meth : Method} {c : Code} {A : Nat → Prop} {D : va_G} {K : Nat → ClassId} (a_self a_least : Nat → Nat) (X : gx p s m args c b_Md_variablesIn 4 R_Md w_Md_variablesIn D classes (tyK K) A) (hr : meth.sig.returnType = some .int) (hlk : meth.locks = false) (N : Nat) (r : Int32) (s_self : Nat → Nat → Int32) (v1 v2 v3 : Int32) (kb : Int32 → Int32 → Option ((Int32))) (hkb : ∀ (v2 v3 : Int32), kb v2 v3 = some r → Gd p l e rm_Md_variablesIn s m args below meth c 0 0 (MQ below (sq D classes (tyK K) (some (.int r)) [wd_Md K a_self (a_least 0) s_self] A) args s 0 0 A) D classes A 4 4 [wd_Md K a_self (a_least 0) s_self] [(0, .ref (a_self 0)), (1, .int v1), (2, .int v2), (3, .int v3)] []) (kx42 : Int32 → Option ((Int32))) (hkx42 : ∀ (v2 : Int32), kx42 v2 = some r → Gd p l e rm_Md_variablesIn s m args below meth c 0 0 (MQ below (sq D classes (tyK K) (some (.int r)) [wd_Md K a_self (a_least 0) s_self] A) args s 0 0 A) D classes A 4 42 [wd_Md K a_self (a_least 0) s_self] [(2, .int v2)] []) (h : f_Md_variablesIn_4 N kb kx42 s_self v1 v2 v3 = some r) : Gd p l e rm_Md_variablesIn s m args below meth c 0 0 (MQ below (sq D classes (tyK K) (some (.int r)) [wd_Md K a_self (a_least 0) s_self] A) args s 0 0 A) D classes A 4 4 [wd_Md K a_self (a_least 0) s_self] [(0, .ref (a_self 0)), (1, .int v1), (2, .int v2), (3, .int v3)] [] := by
  unfold f_Md_variablesIn_4 at h
  refine gd_iload_n X d_Md_variablesIn_4 3 rfl ?_
  refine gd_aload_n X d_Md_variablesIn_5 0 rfl ?_
  refine gd_get X (ci := 7) (C := R_Md) (T := F_Md) (N := 36) (v := .ref (a_self 3)) 0 0 rfl rfl rfl (in_Md _) 7 (by decide) (List.mem_cons_of_mem _ fl_Md_16) rfl rfl d_Md_variablesIn_6 ?_
  refine gd_iload_n X d_Md_variablesIn_9 1 rfl ?_
  obtain ⟨hi_1, h⟩ := ck_e h
  refine gd_iald X 0 3 0 rfl rfl rfl hi_1 d_Md_variablesIn_10 ?_
  refine gd_icmp_ge X (tgt := 42) d_Md_variablesIn_11 (by decide) (fun c_2 => ?_) (fun c_2 => ?_)
  · replace h := it_p c_2 h
    refine gd_loc (lv' := [(2, .int v2)]) [2] rfl ?_
    exact hkx42 v2 h
  · replace h := it_n c_2 h
    refine gd_aload_n X d_Md_variablesIn_14 0 rfl ?_
    refine gd_get X (ci := 7) (C := R_Md) (T := F_Md) (N := 36) (v := .ref (a_self 4)) 0 0 rfl rfl rfl (in_Md _) 8 (by decide) (List.mem_cons_of_mem _ fl_Md_19) rfl rfl d_Md_variablesIn_15 ?_
    refine gd_bipush X (v := 8) d_Md_variablesIn_18 (by decide) ?_
    refine gd_iload_n X d_Md_variablesIn_20 1 rfl ?_
    refine gd_imul X d_Md_variablesIn_21 ?_
    refine gd_iload_n X d_Md_variablesIn_22 3 rfl ?_
    refine gd_iadd X d_Md_variablesIn_23 ?_
    obtain ⟨hi_3, h⟩ := ck_e h
    refine gd_iald X 0 4 0 rfl rfl rfl hi_3 d_Md_variablesIn_24 ?_
    refine gd_if_ge X (tgt := 34) d_Md_variablesIn_25 (by decide) (fun c_4 => ?_) (fun c_4 => ?_)
    · replace h := it_p c_4 h
      refine gd_iload_n X d_Md_variablesIn_34 2 rfl ?_
      refine gd_istore_n X (lv' := [(2, .int v2), (0, .ref (a_self 0)), (1, .int v1), (3, .int v3)]) d_Md_variablesIn_35 rfl (by decide) rfl ?_
      obtain ⟨v3_5, ev3_5, h⟩ := nm_e' h
      refine gd_iinc X (v := v3_5) (lv' := [(3, .int v3_5), (2, .int v2), (0, .ref (a_self 0)), (1, .int v1)]) d_Md_variablesIn_36 (k := 3) rfl (by rw [ev3_5]; rfl) (by decide) rfl ?_
      refine gd_goto X (tgt := 4) d_Md_variablesIn_39 (by decide) ?_
      refine gd_loc (lv' := [(0, .ref (a_self 0)), (1, .int v1), (2, .int v2), (3, .int v3_5)]) [2, 3, 1, 0] rfl ?_
      exact hkb v2 v3_5 h
    · replace h := it_n c_4 h
      refine gd_iload_n X d_Md_variablesIn_28 2 rfl ?_
      refine gd_iconst X (v := 1) d_Md_variablesIn_29 (by decide) ?_
      refine gd_iadd X d_Md_variablesIn_30 ?_
      refine gd_goto X (tgt := 35) d_Md_variablesIn_31 (by decide) ?_
      obtain ⟨v2_6, ev2_6, h⟩ := nm_e' h
      refine gd_topi ev2_6 ?_
      refine gd_istore_n X (lv' := [(2, .int v2_6), (0, .ref (a_self 0)), (1, .int v1), (3, .int v3)]) d_Md_variablesIn_35 rfl (by decide) rfl ?_
      obtain ⟨v3_7, ev3_7, h⟩ := nm_e' h
      refine gd_iinc X (v := v3_7) (lv' := [(3, .int v3_7), (2, .int v2_6), (0, .ref (a_self 0)), (1, .int v1)]) d_Md_variablesIn_36 (k := 3) rfl (by rw [ev3_7]; rfl) (by decide) rfl ?_
      refine gd_goto X (tgt := 4) d_Md_variablesIn_39 (by decide) ?_
      refine gd_loc (lv' := [(0, .ref (a_self 0)), (1, .int v1), (2, .int v2_6), (3, .int v3_7)]) [2, 3, 1, 0] rfl ?_
      exact hkb v2_6 v3_7 h
def f_Md_variablesIn_42 (N : Nat) (s_self : Nat → Nat → Int32) (v2 : Int32) : Option ((Int32)) :=
  some (v2)
set_option maxHeartbeats 4000000 in
set_option maxRecDepth 100000 in
theorem t_Md_variablesIn_42 {p : Program} {l : Launch} {e : Env} {s : State} {m : MethodId} {args : Array Value} {below : List Frame} {meth : Method} {c : Code} {A : Nat → Prop} {D : va_G} {K : Nat → ClassId} (a_self a_least : Nat → Nat) (X : gx p s m args c b_Md_variablesIn 4 R_Md w_Md_variablesIn D classes (tyK K) A) (hr : meth.sig.returnType = some .int) (hlk : meth.locks = false) (N : Nat) (r : Int32) (s_self : Nat → Nat → Int32) (v2 : Int32) (h : f_Md_variablesIn_42 N s_self v2 = some r) : Gd p l e rm_Md_variablesIn s m args below meth c 0 0 (MQ below (sq D classes (tyK K) (some (.int r)) [wd_Md K a_self (a_least 0) s_self] A) args s 0 0 A) D classes A 4 42 [wd_Md K a_self (a_least 0) s_self] [(2, .int v2)] [] := by
  unfold f_Md_variablesIn_42 at h
  refine gd_iload_n X d_Md_variablesIn_42 0 rfl ?_
  cases h
  exact gd_iret X hr hlk d_Md_variablesIn_43
def l_Md_variablesIn_4 (N : Nat) (s_self : Nat → Nat → Int32) (v1 : Int32) (kx42 : Int32 → Option ((Int32))) : Nat → Int32 → Int32 → Option ((Int32))
  | 0, _, _ => none
  | n + 1, v2, v3 => f_Md_variablesIn_4 N (l_Md_variablesIn_4 N s_self v1 kx42 n) kx42 s_self v1 v2 v3
set_option maxHeartbeats 4000000 in
set_option maxRecDepth 100000 in
theorem tl_Md_variablesIn_4 {p : Program} {l : Launch} {e : Env} {s : State} {m : MethodId} {args : Array Value} {below : List Frame} {meth : Method} {c : Code} {A : Nat → Prop} {D : va_G} {K : Nat → ClassId} (a_self a_least : Nat → Nat) (X : gx p s m args c b_Md_variablesIn 4 R_Md w_Md_variablesIn D classes (tyK K) A) (hr : meth.sig.returnType = some .int) (hlk : meth.locks = false) (N : Nat) (r : Int32) (s_self : Nat → Nat → Int32) (v1 : Int32) (kx42 : Int32 → Option ((Int32))) (hkx42 : ∀ (v2 : Int32), kx42 v2 = some r → Gd p l e rm_Md_variablesIn s m args below meth c 0 0 (MQ below (sq D classes (tyK K) (some (.int r)) [wd_Md K a_self (a_least 0) s_self] A) args s 0 0 A) D classes A 4 42 [wd_Md K a_self (a_least 0) s_self] [(2, .int v2)] []) : ∀ (n : Nat) (v2 v3 : Int32), l_Md_variablesIn_4 N s_self v1 kx42 n v2 v3 = some r → Gd p l e rm_Md_variablesIn s m args below meth c 0 0 (MQ below (sq D classes (tyK K) (some (.int r)) [wd_Md K a_self (a_least 0) s_self] A) args s 0 0 A) D classes A 4 4 [wd_Md K a_self (a_least 0) s_self] [(0, .ref (a_self 0)), (1, .int v1), (2, .int v2), (3, .int v3)] [] := by
  intro n
  induction n with
  | zero => intro v2 v3 h; have h : (none : Option ((Int32))) = some _ := h; cases h
  | succ n ih =>
    intro v2 v3 h
    exact t_Md_variablesIn_4 a_self a_least X hr hlk N r s_self v1 v2 v3 (l_Md_variablesIn_4 N s_self v1 kx42 n) ih kx42 hkx42 h
def f_Md_variablesIn_0 (N : Nat) (s_self : Nat → Nat → Int32) (v1 : Int32) : Option ((Int32)) :=
  l_Md_variablesIn_4 N s_self v1 (fun v2 => f_Md_variablesIn_42 N s_self v2) N 0 0
set_option maxHeartbeats 4000000 in
set_option maxRecDepth 100000 in
theorem t_Md_variablesIn_0 {p : Program} {l : Launch} {e : Env} {s : State} {m : MethodId} {args : Array Value} {below : List Frame} {meth : Method} {c : Code} {A : Nat → Prop} {D : va_G} {K : Nat → ClassId} (a_self a_least : Nat → Nat) (X : gx p s m args c b_Md_variablesIn 4 R_Md w_Md_variablesIn D classes (tyK K) A) (hr : meth.sig.returnType = some .int) (hlk : meth.locks = false) (N : Nat) (r : Int32) (s_self : Nat → Nat → Int32) (v1 : Int32) (h : f_Md_variablesIn_0 N s_self v1 = some r) : Gd p l e rm_Md_variablesIn s m args below meth c 0 0 (MQ below (sq D classes (tyK K) (some (.int r)) [wd_Md K a_self (a_least 0) s_self] A) args s 0 0 A) D classes A 4 0 [wd_Md K a_self (a_least 0) s_self] [(0, .ref (a_self 0)), (1, .int v1)] [] := by
  unfold f_Md_variablesIn_0 at h
  refine gd_iconst X (v := 0) d_Md_variablesIn_0 (by decide) ?_
  refine gd_istore_n X (lv' := [(2, .int 0), (0, .ref (a_self 0)), (1, .int v1)]) d_Md_variablesIn_1 rfl (by decide) rfl ?_
  refine gd_iconst X (v := 0) d_Md_variablesIn_2 (by decide) ?_
  refine gd_istore_n X (lv' := [(3, .int 0), (2, .int 0), (0, .ref (a_self 0)), (1, .int v1)]) d_Md_variablesIn_3 rfl (by decide) rfl ?_
  refine gd_loc (lv' := [(0, .ref (a_self 0)), (1, .int v1), (2, .int 0), (3, .int 0)]) [2, 3, 1, 0] rfl ?_
  exact tl_Md_variablesIn_4 a_self a_least X hr hlk N r s_self v1 (fun v2 => f_Md_variablesIn_42 N s_self v2) (fun v2 h => t_Md_variablesIn_42 a_self a_least X hr hlk N r s_self v2 h) N 0 0 h
def m_Md_variablesIn (N : Nat) (s_self : Nat → Nat → Int32) (v1 : Int32) : Option ((Int32)) := f_Md_variablesIn_0 N s_self v1
set_option maxHeartbeats 4000000 in
set_option maxRecDepth 100000 in
theorem c_Md_variablesIn (l : Launch) (D : va_G) (K : Nat → ClassId) (a_self a_least : Nat → Nat) (N : Nat) (s_self : Nat → Nat → Int32) (v1 : Int32) (r : Int32) (h : m_Md_variablesIn N s_self v1 = some r) : SMet l y_Md_variablesIn w_Md_variablesIn rm_Md_variablesIn D classes (tyK K) [.ref (a_self 0), .int v1] (some (.int r)) [wd_Md K a_self (a_least 0) s_self] [wd_Md K a_self (a_least 0) s_self] := by
  refine sm_of R_Md (by decide) rfl rfl (Nat.le_of_ble_eq_true rfl) ?_
  intro p e s m below meth c A X hr hlk
  refine gd_loc (lv' := [(0, .ref (a_self 0)), (1, .int v1)]) [0, 1] rfl ?_
  exact t_Md_variablesIn_0 a_self a_least X hr hlk N r s_self v1 h
abbrev b_Md_put : ByteArray := prog_10_method_9_code
def y_Md_put : MethodName := ⟨R_Md, "put", "(I)I"⟩
def w_Md_put : List Cond := .code y_Md_put b_Md_put 2 (some .int) :: TB
theorem k_Md_put : Cond.code y_Md_put b_Md_put 2 (some .int) ∈ TB := tb_of 850 (by decide +kernel) (by decide +kernel)
theorem d_Md_put_0 : decode b_Md_put 0 = .ok (.aload_n 0, 1) := by decide +kernel
theorem d_Md_put_1 : decode b_Md_put 1 = .ok (.iconst 0, 1) := by decide +kernel
theorem d_Md_put_2 : decode b_Md_put 2 = .ok (.putfield 86, 3) := by decide +kernel
theorem d_Md_put_5 : decode b_Md_put 5 = .ok (.aload_n 0, 1) := by decide +kernel
theorem d_Md_put_6 : decode b_Md_put 6 = .ok (.getfield 106, 3) := by decide +kernel
theorem d_Md_put_9 : decode b_Md_put 9 = .ok (.ifCond .eq 37, 3) := by decide +kernel
theorem d_Md_put_12 : decode b_Md_put 12 = .ok (.aload_n 0, 1) := by decide +kernel
theorem d_Md_put_13 : decode b_Md_put 13 = .ok (.iload_n 1, 1) := by decide +kernel
theorem d_Md_put_14 : decode b_Md_put 14 = .ok (.invokevirtual 109, 3) := by decide +kernel
theorem d_Md_put_17 : decode b_Md_put 17 = .ok (.ifCond .eq 29, 3) := by decide +kernel
theorem d_Md_put_20 : decode b_Md_put 20 = .ok (.aload_n 0, 1) := by decide +kernel
theorem d_Md_put_21 : decode b_Md_put 21 = .ok (.getfield 16, 3) := by decide +kernel
theorem d_Md_put_24 : decode b_Md_put 24 = .ok (.bipush 30, 2) := by decide +kernel
theorem d_Md_put_26 : decode b_Md_put 26 = .ok (.iaload, 1) := by decide +kernel
theorem d_Md_put_27 : decode b_Md_put 27 = .ok (.bipush 8, 2) := by decide +kernel
theorem d_Md_put_29 : decode b_Md_put 29 = .ok (.if_icmp .eq 17, 3) := by decide +kernel
theorem d_Md_put_32 : decode b_Md_put 32 = .ok (.iload_n 1, 1) := by decide +kernel
theorem d_Md_put_33 : decode b_Md_put 33 = .ok (.ifCond .ge 15, 3) := by decide +kernel
theorem d_Md_put_36 : decode b_Md_put 36 = .ok (.aload_n 0, 1) := by decide +kernel
theorem d_Md_put_37 : decode b_Md_put 37 = .ok (.bipush 30, 2) := by decide +kernel
theorem d_Md_put_39 : decode b_Md_put 39 = .ok (.invokevirtual 112, 3) := by decide +kernel
theorem d_Md_put_42 : decode b_Md_put 42 = .ok (.iconst 4, 1) := by decide +kernel
theorem d_Md_put_43 : decode b_Md_put 43 = .ok (.if_icmp .ne 5, 3) := by decide +kernel
theorem d_Md_put_46 : decode b_Md_put 46 = .ok (.iconst (-1), 1) := by decide +kernel
theorem d_Md_put_47 : decode b_Md_put 47 = .ok (.ireturn, 1) := by decide +kernel
theorem d_Md_put_48 : decode b_Md_put 48 = .ok (.aload_n 0, 1) := by decide +kernel
theorem d_Md_put_49 : decode b_Md_put 49 = .ok (.getfield 19, 3) := by decide +kernel
theorem d_Md_put_52 : decode b_Md_put 52 = .ok (.sipush 240, 3) := by decide +kernel
theorem d_Md_put_55 : decode b_Md_put 55 = .ok (.aload_n 0, 1) := by decide +kernel
theorem d_Md_put_56 : decode b_Md_put 56 = .ok (.getfield 16, 3) := by decide +kernel
theorem d_Md_put_59 : decode b_Md_put 59 = .ok (.bipush 30, 2) := by decide +kernel
theorem d_Md_put_61 : decode b_Md_put 61 = .ok (.iaload, 1) := by decide +kernel
theorem d_Md_put_62 : decode b_Md_put 62 = .ok (.iadd, 1) := by decide +kernel
theorem d_Md_put_63 : decode b_Md_put 63 = .ok (.iload_n 1, 1) := by decide +kernel
theorem d_Md_put_64 : decode b_Md_put 64 = .ok (.iastore, 1) := by decide +kernel
theorem d_Md_put_65 : decode b_Md_put 65 = .ok (.aload_n 0, 1) := by decide +kernel
theorem d_Md_put_66 : decode b_Md_put 66 = .ok (.getfield 16, 3) := by decide +kernel
theorem d_Md_put_69 : decode b_Md_put 69 = .ok (.bipush 30, 2) := by decide +kernel
theorem d_Md_put_71 : decode b_Md_put 71 = .ok (.dup2, 1) := by decide +kernel
theorem d_Md_put_72 : decode b_Md_put 72 = .ok (.iaload, 1) := by decide +kernel
theorem d_Md_put_73 : decode b_Md_put 73 = .ok (.iconst 1, 1) := by decide +kernel
theorem d_Md_put_74 : decode b_Md_put 74 = .ok (.iadd, 1) := by decide +kernel
theorem d_Md_put_75 : decode b_Md_put 75 = .ok (.iastore, 1) := by decide +kernel
theorem d_Md_put_76 : decode b_Md_put 76 = .ok (.aload_n 0, 1) := by decide +kernel
theorem d_Md_put_77 : decode b_Md_put 77 = .ok (.getfield 16, 3) := by decide +kernel
theorem d_Md_put_80 : decode b_Md_put 80 = .ok (.bipush 30, 2) := by decide +kernel
theorem d_Md_put_82 : decode b_Md_put 82 = .ok (.iaload, 1) := by decide +kernel
theorem d_Md_put_83 : decode b_Md_put 83 = .ok (.ireturn, 1) := by decide +kernel
theorem ml_Md_109 : Cond.methodLink R_Md 109 ⟨"RuleTreesModel", "isSymbol", "(I)Z"⟩ ∈ TB := tb_of 851 (by decide +kernel) (by decide +kernel)
theorem u_Md_isSymbol : (Cond.instanceMethod y_Md_isSymbol ∈ TB ∧ Cond.selects R_Md y_Md_isSymbol y_Md_isSymbol ∈ TB) ∧ Cond.initialized R_Md ∈ TB ∧ Cond.code y_Md_isSymbol b_Md_isSymbol 2 (some .boolean) ∈ TB := ⟨⟨(tb_of 853 (by decide +kernel) (by decide +kernel)), (tb_of 36 (by decide +kernel) (by decide +kernel))⟩, (tb_of 70 (by decide +kernel) (by decide +kernel)), k_Md_isSymbol⟩
theorem ml_Md_112 : Cond.methodLink R_Md 112 ⟨"RuleTreesModel", "variablesIn", "(I)I"⟩ ∈ TB := tb_of 855 (by decide +kernel) (by decide +kernel)
theorem u_Md_variablesIn : (Cond.instanceMethod y_Md_variablesIn ∈ TB ∧ Cond.selects R_Md y_Md_variablesIn y_Md_variablesIn ∈ TB) ∧ Cond.initialized R_Md ∈ TB ∧ Cond.code y_Md_variablesIn b_Md_variablesIn 4 (some .int) ∈ TB := ⟨⟨(tb_of 857 (by decide +kernel) (by decide +kernel)), (tb_of 37 (by decide +kernel) (by decide +kernel))⟩, (tb_of 70 (by decide +kernel) (by decide +kernel)), k_Md_variablesIn⟩
abbrev rm_Md_put : Room := { frames := 1, cells := 0, slots := 0, locals := 23 }
def f_Md_put_48 (N : Nat) (s_self : Nat → Nat → Int32) (v1 : Int32) : Option ((Int32) × (Nat → Nat → Int32)) :=
  ck 30 31 <|
  ck (240 + (s_self 3 (Int32.toNatClampNeg 30))) 248 <| nm (st2 s_self 4 (Int32.toNatClampNeg (240 + (s_self 3 (Int32.toNatClampNeg 30)))) v1) fun s_self_3 =>
  ck 30 31 <|
  ck 30 31 <| nm (st2 s_self_3 3 (Int32.toNatClampNeg 30) ((s_self_3 3 (Int32.toNatClampNeg 30)) + 1)) fun s_self_6 =>
  ck 30 31 <|
  some ((s_self_6 3 (Int32.toNatClampNeg 30)), s_self_6)
set_option maxHeartbeats 4000000 in
set_option maxRecDepth 100000 in
theorem t_Md_put_48 {p : Program} {l : Launch} {e : Env} {s : State} {m : MethodId} {args : Array Value} {below : List Frame} {meth : Method} {c : Code} {A : Nat → Prop} {D : va_G} {K : Nat → ClassId} (a_self a_least : Nat → Nat) (X : gx p s m args c b_Md_put 2 R_Md w_Md_put D classes (tyK K) A) (hr : meth.sig.returnType = some .int) (hlk : meth.locks = false) (N : Nat) (r : Int32) (f_self : Nat → Nat → Int32) (s_self : Nat → Nat → Int32) (v1 : Int32) (h : f_Md_put_48 N s_self v1 = some (r, f_self)) : Gd p l e rm_Md_put s m args below meth c 0 0 (MQ below (sq D classes (tyK K) (some (.int r)) [wd_Md K a_self (a_least 0) f_self] A) args s 0 0 A) D classes A 2 48 [wd_Md K a_self (a_least 0) s_self] [(0, .ref (a_self 0)), (1, .int v1)] [] := by
  unfold f_Md_put_48 at h
  refine gd_aload_n X d_Md_put_48 0 rfl ?_
  refine gd_get X (ci := 7) (C := R_Md) (T := F_Md) (N := 36) (v := .ref (a_self 4)) 0 0 rfl rfl rfl (in_Md _) 8 (by decide) (List.mem_cons_of_mem _ fl_Md_19) rfl rfl d_Md_put_49 ?_
  refine gd_sipush X (v := 240) d_Md_put_52 (by decide) ?_
  refine gd_aload_n X d_Md_put_55 0 rfl ?_
  refine gd_get X (ci := 7) (C := R_Md) (T := F_Md) (N := 36) (v := .ref (a_self 3)) 0 0 rfl rfl rfl (in_Md _) 7 (by decide) (List.mem_cons_of_mem _ fl_Md_16) rfl rfl d_Md_put_56 ?_
  refine gd_bipush X (v := 30) d_Md_put_59 (by decide) ?_
  obtain ⟨hi_1, h⟩ := ck_e h
  refine gd_iald X 0 3 0 rfl rfl rfl hi_1 d_Md_put_61 ?_
  refine gd_iadd X d_Md_put_62 ?_
  refine gd_iload_n X d_Md_put_63 1 rfl ?_
  obtain ⟨hi_2, h⟩ := ck_e h
  obtain ⟨s_self_3, es_self_3, h⟩ := nm_e' h
  refine gd_iast X (w' := [wd_Md K a_self (a_least 0) s_self_3]) 0 4 0 rfl rfl rfl hi_2 d_Md_put_64 (by rw [es_self_3]; rfl) ?_
  refine gd_aload_n X d_Md_put_65 0 rfl ?_
  refine gd_get X (ci := 7) (C := R_Md) (T := F_Md) (N := 36) (v := .ref (a_self 3)) 0 0 rfl rfl rfl (in_Md _) 7 (by decide) (List.mem_cons_of_mem _ fl_Md_16) rfl rfl d_Md_put_66 ?_
  refine gd_bipush X (v := 30) d_Md_put_69 (by decide) ?_
  refine gd_dup2 X d_Md_put_71 rfl rfl ?_
  obtain ⟨hi_4, h⟩ := ck_e h
  refine gd_iald X 0 3 0 rfl rfl rfl hi_4 d_Md_put_72 ?_
  refine gd_iconst X (v := 1) d_Md_put_73 (by decide) ?_
  refine gd_iadd X d_Md_put_74 ?_
  obtain ⟨hi_5, h⟩ := ck_e h
  obtain ⟨s_self_6, es_self_6, h⟩ := nm_e' h
  refine gd_iast X (w' := [wd_Md K a_self (a_least 0) s_self_6]) 0 3 0 rfl rfl rfl hi_5 d_Md_put_75 (by rw [es_self_6]; rfl) ?_
  refine gd_aload_n X d_Md_put_76 0 rfl ?_
  refine gd_get X (ci := 7) (C := R_Md) (T := F_Md) (N := 36) (v := .ref (a_self 3)) 0 0 rfl rfl rfl (in_Md _) 7 (by decide) (List.mem_cons_of_mem _ fl_Md_16) rfl rfl d_Md_put_77 ?_
  refine gd_bipush X (v := 30) d_Md_put_80 (by decide) ?_
  obtain ⟨hi_7, h⟩ := ck_e h
  refine gd_iald X 0 3 0 rfl rfl rfl hi_7 d_Md_put_82 ?_
  cases h
  exact gd_iret X hr hlk d_Md_put_83
def f_Md_put_0 (N : Nat) (s_self : Nat → Nat → Int32) (v1 : Int32) : Option ((Int32) × (Nat → Nat → Int32)) :=
  nm (st2 s_self 0 0 0) fun s_self_1 =>
  if (s_self_1 0 5) = 0 then
    some (((-1)), s_self_1)
  else
    bd1 (m_Md_isSymbol s_self_1 v1) fun r_3 =>
    if r_3 = 0 then
      some (((-1)), s_self_1)
    else
      ck 30 31 <|
      if (s_self_1 3 (Int32.toNatClampNeg 30)) = 8 then
        some (((-1)), s_self_1)
      else
        if 0 ≤ v1 then
          f_Md_put_48 N s_self_1 v1
        else
          bd1 (m_Md_variablesIn N s_self_1 30) fun r_9 =>
          if r_9 = 4 then
            some (((-1)), s_self_1)
          else
            f_Md_put_48 N s_self_1 v1
set_option maxHeartbeats 4000000 in
set_option maxRecDepth 100000 in
theorem t_Md_put_0 {p : Program} {l : Launch} {e : Env} {s : State} {m : MethodId} {args : Array Value} {below : List Frame} {meth : Method} {c : Code} {A : Nat → Prop} {D : va_G} {K : Nat → ClassId} (a_self a_least : Nat → Nat) (X : gx p s m args c b_Md_put 2 R_Md w_Md_put D classes (tyK K) A) (hr : meth.sig.returnType = some .int) (hlk : meth.locks = false) (N : Nat) (r : Int32) (f_self : Nat → Nat → Int32) (s_self : Nat → Nat → Int32) (v1 : Int32) (h : f_Md_put_0 N s_self v1 = some (r, f_self)) : Gd p l e rm_Md_put s m args below meth c 0 0 (MQ below (sq D classes (tyK K) (some (.int r)) [wd_Md K a_self (a_least 0) f_self] A) args s 0 0 A) D classes A 2 0 [wd_Md K a_self (a_least 0) s_self] [(0, .ref (a_self 0)), (1, .int v1)] [] := by
  unfold f_Md_put_0 at h
  refine gd_aload_n X d_Md_put_0 0 rfl ?_
  refine gd_iconst X (v := 0) d_Md_put_1 (by decide) ?_
  obtain ⟨s_self_1, es_self_1, h⟩ := nm_e' h
  refine gd_put X (ci := 7) (C := R_Md) (T := F_Md) (N := 36) (ty := .int) (w' := [wd_Md K a_self (a_least 0) s_self_1]) 0 0 rfl rfl rfl (in_Md _) t_Md t_Md_ok n_Md 0 (by decide) (List.mem_cons_of_mem _ fl_Md_86) rfl rfl (by decide +kernel) rfl rfl (Nat.le_of_ble_eq_true rfl) d_Md_put_2 (by rw [es_self_1]; rfl) ?_
  refine gd_aload_n X d_Md_put_5 0 rfl ?_
  refine gd_get X (ci := 7) (C := R_Md) (T := F_Md) (N := 36) (v := .int (s_self_1 0 5)) 0 0 rfl rfl rfl (in_Md _) 5 (by decide) (List.mem_cons_of_mem _ fl_Md_106) rfl rfl d_Md_put_6 ?_
  refine gd_if_eq X (tgt := 46) d_Md_put_9 (by decide) (fun c_2 => ?_) (fun c_2 => ?_)
  · replace h := it_p c_2 h
    refine gd_iconst X (v := (-1)) d_Md_put_46 (by decide) ?_
    cases h
    exact gd_iret X hr hlk d_Md_put_47
  · replace h := it_n c_2 h
    refine gd_aload_n X d_Md_put_12 0 rfl ?_
    refine gd_iload_n X d_Md_put_13 1 rfl ?_
    obtain ⟨r_3, hc_4, h⟩ := bd1_e h
    refine gd_fI X (gd_V X (As := [.int v1]) (rest := []) (c_Md_isSymbol l D K a_self a_least s_self_1 v1 r_3 hc_4) 1 (gi_V ml_Md_109 u_Md_isSymbol) rfl ⟨rfl, rfl⟩ (by decide +kernel) ⟨by decide, by decide⟩ (ci := 7) rfl rfl rfl rfl rfl rfl (Nat.le_of_ble_eq_true rfl) ⟨Nat.zero_le _, Nat.zero_le _⟩ d_Md_put_14) ?_
    refine gd_if_eq X (tgt := 46) d_Md_put_17 (by decide) (fun c_5 => ?_) (fun c_5 => ?_)
    · replace h := it_p c_5 h
      refine gd_iconst X (v := (-1)) d_Md_put_46 (by decide) ?_
      cases h
      exact gd_iret X hr hlk d_Md_put_47
    · replace h := it_n c_5 h
      refine gd_aload_n X d_Md_put_20 0 rfl ?_
      refine gd_get X (ci := 7) (C := R_Md) (T := F_Md) (N := 36) (v := .ref (a_self 3)) 0 0 rfl rfl rfl (in_Md _) 7 (by decide) (List.mem_cons_of_mem _ fl_Md_16) rfl rfl d_Md_put_21 ?_
      refine gd_bipush X (v := 30) d_Md_put_24 (by decide) ?_
      obtain ⟨hi_6, h⟩ := ck_e h
      refine gd_iald X 0 3 0 rfl rfl rfl hi_6 d_Md_put_26 ?_
      refine gd_bipush X (v := 8) d_Md_put_27 (by decide) ?_
      refine gd_icmp_eq X (tgt := 46) d_Md_put_29 (by decide) (fun c_7 => ?_) (fun c_7 => ?_)
      · replace h := it_p c_7 h
        refine gd_iconst X (v := (-1)) d_Md_put_46 (by decide) ?_
        cases h
        exact gd_iret X hr hlk d_Md_put_47
      · replace h := it_n c_7 h
        refine gd_iload_n X d_Md_put_32 1 rfl ?_
        refine gd_if_ge X (tgt := 48) d_Md_put_33 (by decide) (fun c_8 => ?_) (fun c_8 => ?_)
        · replace h := it_p c_8 h
          exact t_Md_put_48 a_self a_least X hr hlk N r f_self s_self_1 v1 h
        · replace h := it_n c_8 h
          refine gd_aload_n X d_Md_put_36 0 rfl ?_
          refine gd_bipush X (v := 30) d_Md_put_37 (by decide) ?_
          obtain ⟨r_9, hc_10, h⟩ := bd1_e h
          refine gd_fI X (gd_V X (As := [.int 30]) (rest := []) (c_Md_variablesIn l D K a_self a_least N s_self_1 30 r_9 hc_10) 1 (gi_V ml_Md_112 u_Md_variablesIn) rfl ⟨rfl, rfl⟩ (by decide +kernel) ⟨by decide, by decide⟩ (ci := 7) rfl rfl rfl rfl rfl rfl (Nat.le_of_ble_eq_true rfl) ⟨Nat.zero_le _, Nat.zero_le _⟩ d_Md_put_39) ?_
          refine gd_iconst X (v := 4) d_Md_put_42 (by decide) ?_
          refine gd_icmp_ne X (tgt := 48) d_Md_put_43 (by decide) (fun c_11 => ?_) (fun c_11 => ?_)
          · replace h := it_n c_11 h
            exact t_Md_put_48 a_self a_least X hr hlk N r f_self s_self_1 v1 h
          · replace h := it_p c_11 h
            refine gd_iconst X (v := (-1)) d_Md_put_46 (by decide) ?_
            cases h
            exact gd_iret X hr hlk d_Md_put_47
def m_Md_put (N : Nat) (s_self : Nat → Nat → Int32) (v1 : Int32) : Option ((Int32) × (Nat → Nat → Int32)) := f_Md_put_0 N s_self v1
set_option maxHeartbeats 4000000 in
set_option maxRecDepth 100000 in
theorem c_Md_put (l : Launch) (D : va_G) (K : Nat → ClassId) (a_self a_least : Nat → Nat) (N : Nat) (s_self : Nat → Nat → Int32) (v1 : Int32) (r : Int32) (f_self : Nat → Nat → Int32) (h : m_Md_put N s_self v1 = some (r, f_self)) : SMet l y_Md_put w_Md_put rm_Md_put D classes (tyK K) [.ref (a_self 0), .int v1] (some (.int r)) [wd_Md K a_self (a_least 0) s_self] [wd_Md K a_self (a_least 0) f_self] := by
  refine sm_of R_Md (by decide) rfl rfl (Nat.le_of_ble_eq_true rfl) ?_
  intro p e s m below meth c A X hr hlk
  refine gd_loc (lv' := [(0, .ref (a_self 0)), (1, .int v1)]) [0, 1] rfl ?_
  exact t_Md_put_0 a_self a_least X hr hlk N r f_self s_self v1 h
