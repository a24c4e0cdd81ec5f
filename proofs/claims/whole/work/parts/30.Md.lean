abbrev b_Md_isSymbol : ByteArray := prog_10_method_4_code
def y_Md_isSymbol : MethodName := ⟨R_Md, "isSymbol", "(I)Z"⟩
def w_Md_isSymbol : List Cond := .code y_Md_isSymbol b_Md_isSymbol 2 (some .boolean) :: TB
theorem k_Md_isSymbol : Cond.code y_Md_isSymbol b_Md_isSymbol 2 (some .boolean) ∈ TB := tb_of 854 (by decide +kernel) (by decide +kernel)
theorem d_Md_isSymbol_0 : decode b_Md_isSymbol 0 = .ok (.iload_n 1, 1) := by decide +kernel
theorem d_Md_isSymbol_1 : decode b_Md_isSymbol 1 = .ok (.ifCond .lt 17, 3) := by decide +kernel
theorem d_Md_isSymbol_4 : decode b_Md_isSymbol 4 = .ok (.iload_n 1, 1) := by decide +kernel
theorem d_Md_isSymbol_5 : decode b_Md_isSymbol 5 = .ok (.bipush 30, 2) := by decide +kernel
theorem d_Md_isSymbol_7 : decode b_Md_isSymbol 7 = .ok (.if_icmp .ge 7, 3) := by decide +kernel
theorem d_Md_isSymbol_10 : decode b_Md_isSymbol 10 = .ok (.iconst 1, 1) := by decide +kernel
theorem d_Md_isSymbol_11 : decode b_Md_isSymbol 11 = .ok (.goto 21, 3) := by decide +kernel
theorem d_Md_isSymbol_14 : decode b_Md_isSymbol 14 = .ok (.iconst 0, 1) := by decide +kernel
theorem d_Md_isSymbol_15 : decode b_Md_isSymbol 15 = .ok (.goto 17, 3) := by decide +kernel
theorem d_Md_isSymbol_18 : decode b_Md_isSymbol 18 = .ok (.iload_n 1, 1) := by decide +kernel
theorem d_Md_isSymbol_19 : decode b_Md_isSymbol 19 = .ok (.aload_n 0, 1) := by decide +kernel
theorem d_Md_isSymbol_20 : decode b_Md_isSymbol 20 = .ok (.getfield 92, 3) := by decide +kernel
theorem d_Md_isSymbol_23 : decode b_Md_isSymbol 23 = .ok (.ineg, 1) := by decide +kernel
theorem d_Md_isSymbol_24 : decode b_Md_isSymbol 24 = .ok (.if_icmp .lt 7, 3) := by decide +kernel
theorem d_Md_isSymbol_27 : decode b_Md_isSymbol 27 = .ok (.iconst 1, 1) := by decide +kernel
theorem d_Md_isSymbol_28 : decode b_Md_isSymbol 28 = .ok (.goto 4, 3) := by decide +kernel
theorem d_Md_isSymbol_31 : decode b_Md_isSymbol 31 = .ok (.iconst 0, 1) := by decide +kernel
theorem d_Md_isSymbol_32 : decode b_Md_isSymbol 32 = .ok (.ireturn, 1) := by decide +kernel
theorem fl_Md_92 : Cond.fieldLink R_Md 92 "RuleTreesModel" "variables" "I" ∈ TB := tb_of 722 (by decide +kernel) (by decide +kernel)
abbrev rm_Md_isSymbol : Room := { frames := 0, cells := 0, slots := 0, locals := 0 }
def f_Md_isSymbol_0 (s_self : Nat → Nat → Int32) (v1 : Int32) : Option ((Int32)) :=
  if v1 < 0 then
    if v1 < (-(s_self 0 2)) then
      some (0)
    else
      some (1)
  else
    if 30 ≤ v1 then
      some (0)
    else
      some (1)
set_option maxHeartbeats 4000000 in
set_option maxRecDepth 100000 in
theorem t_Md_isSymbol_0 {p : Program} {l : Launch} {e : Env} {s : State} {m : MethodId} {args : Array Value} {below : List Frame} {meth : Method} {c : Code} {A : Nat → Prop} {D : va_G} {K : Nat → ClassId} (a_self a_least : Nat → Nat) (X : gx p s m args c b_Md_isSymbol 2 R_Md w_Md_isSymbol D classes (tyK K) A) (hr : meth.sig.returnType = some .boolean) (hlk : meth.locks = false) (r : Int32) (s_self : Nat → Nat → Int32) (v1 : Int32) (h : f_Md_isSymbol_0 s_self v1 = some r) : Gd p l e rm_Md_isSymbol s m args below meth c 0 0 (MQ below (sq D classes (tyK K) (some (.int r)) [wd_Md K a_self (a_least 0) s_self] A) args s 0 0 A) D classes A 2 0 [wd_Md K a_self (a_least 0) s_self] [(0, .ref (a_self 0)), (1, .int v1)] [] := by
  unfold f_Md_isSymbol_0 at h
  refine gd_iload_n X d_Md_isSymbol_0 1 rfl ?_
  refine gd_if_lt X (tgt := 18) d_Md_isSymbol_1 (by decide) (fun c_1 => ?_) (fun c_1 => ?_)
  · replace h := it_p c_1 h
    refine gd_iload_n X d_Md_isSymbol_18 1 rfl ?_
    refine gd_aload_n X d_Md_isSymbol_19 0 rfl ?_
    refine gd_get X (ci := 7) (C := R_Md) (T := F_Md) (N := 36) (v := .int (s_self 0 2)) 0 0 rfl rfl rfl (in_Md _) 2 (by decide) (List.mem_cons_of_mem _ fl_Md_92) rfl rfl d_Md_isSymbol_20 ?_
    refine gd_ineg X d_Md_isSymbol_23 ?_
    refine gd_icmp_lt X (tgt := 31) d_Md_isSymbol_24 (by decide) (fun c_2 => ?_) (fun c_2 => ?_)
    · replace h := it_p c_2 h
      refine gd_iconst X (v := 0) d_Md_isSymbol_31 (by decide) ?_
      cases h
      exact gd_zret X hr hlk (by decide) d_Md_isSymbol_32
    · replace h := it_n c_2 h
      refine gd_iconst X (v := 1) d_Md_isSymbol_27 (by decide) ?_
      refine gd_goto X (tgt := 32) d_Md_isSymbol_28 (by decide) ?_
      cases h
      exact gd_zret X hr hlk (by decide) d_Md_isSymbol_32
  · replace h := it_n c_1 h
    refine gd_iload_n X d_Md_isSymbol_4 1 rfl ?_
    refine gd_bipush X (v := 30) d_Md_isSymbol_5 (by decide) ?_
    refine gd_icmp_ge X (tgt := 14) d_Md_isSymbol_7 (by decide) (fun c_3 => ?_) (fun c_3 => ?_)
    · replace h := it_p c_3 h
      refine gd_iconst X (v := 0) d_Md_isSymbol_14 (by decide) ?_
      refine gd_goto X (tgt := 32) d_Md_isSymbol_15 (by decide) ?_
      cases h
      exact gd_zret X hr hlk (by decide) d_Md_isSymbol_32
    · replace h := it_n c_3 h
      refine gd_iconst X (v := 1) d_Md_isSymbol_10 (by decide) ?_
      refine gd_goto X (tgt := 32) d_Md_isSymbol_11 (by decide) ?_
      cases h
      exact gd_zret X hr hlk (by decide) d_Md_isSymbol_32
def m_Md_isSymbol (s_self : Nat → Nat → Int32) (v1 : Int32) : Option ((Int32)) := f_Md_isSymbol_0 s_self v1
set_option maxHeartbeats 4000000 in
set_option maxRecDepth 100000 in
theorem c_Md_isSymbol (l : Launch) (D : va_G) (K : Nat → ClassId) (a_self a_least : Nat → Nat) (s_self : Nat → Nat → Int32) (v1 : Int32) (r : Int32) (h : m_Md_isSymbol s_self v1 = some r) : SMet l y_Md_isSymbol w_Md_isSymbol rm_Md_isSymbol D classes (tyK K) [.ref (a_self 0), .int v1] (some (.int r)) [wd_Md K a_self (a_least 0) s_self] [wd_Md K a_self (a_least 0) s_self] := by
  refine sm_of R_Md (by decide) rfl rfl (Nat.le_of_ble_eq_true rfl) ?_
  intro p e s m below meth c A X hr hlk
  refine gd_loc (lv' := [(0, .ref (a_self 0)), (1, .int v1)]) [0, 1] rfl ?_
  exact t_Md_isSymbol_0 a_self a_least X hr hlk r s_self v1 h
abbrev b_Md_sort : ByteArray := prog_10_method_5_code
def y_Md_sort : MethodName := ⟨R_Md, "sort", "()I"⟩
def w_Md_sort : List Cond := .code y_Md_sort b_Md_sort 1 (some .int) :: TB
theorem k_Md_sort : Cond.code y_Md_sort b_Md_sort 1 (some .int) ∈ TB := tb_of 834 (by decide +kernel) (by decide +kernel)
theorem d_Md_sort_0 : decode b_Md_sort 0 = .ok (.aload_n 0, 1) := by decide +kernel
theorem d_Md_sort_1 : decode b_Md_sort 1 = .ok (.iconst 0, 1) := by decide +kernel
theorem d_Md_sort_2 : decode b_Md_sort 2 = .ok (.putfield 86, 3) := by decide +kernel
theorem d_Md_sort_5 : decode b_Md_sort 5 = .ok (.aload_n 0, 1) := by decide +kernel
theorem d_Md_sort_6 : decode b_Md_sort 6 = .ok (.getfield 89, 3) := by decide +kernel
theorem d_Md_sort_9 : decode b_Md_sort 9 = .ok (.bipush 6, 2) := by decide +kernel
theorem d_Md_sort_11 : decode b_Md_sort 11 = .ok (.if_icmp .ne 5, 3) := by decide +kernel
theorem d_Md_sort_14 : decode b_Md_sort 14 = .ok (.iconst (-1), 1) := by decide +kernel
theorem d_Md_sort_15 : decode b_Md_sort 15 = .ok (.ireturn, 1) := by decide +kernel
theorem d_Md_sort_16 : decode b_Md_sort 16 = .ok (.aload_n 0, 1) := by decide +kernel
theorem d_Md_sort_17 : decode b_Md_sort 17 = .ok (.dup, 1) := by decide +kernel
theorem d_Md_sort_18 : decode b_Md_sort 18 = .ok (.getfield 89, 3) := by decide +kernel
theorem d_Md_sort_21 : decode b_Md_sort 21 = .ok (.iconst 1, 1) := by decide +kernel
theorem d_Md_sort_22 : decode b_Md_sort 22 = .ok (.iadd, 1) := by decide +kernel
theorem d_Md_sort_23 : decode b_Md_sort 23 = .ok (.putfield 89, 3) := by decide +kernel
theorem d_Md_sort_26 : decode b_Md_sort 26 = .ok (.aload_n 0, 1) := by decide +kernel
theorem d_Md_sort_27 : decode b_Md_sort 27 = .ok (.iconst 0, 1) := by decide +kernel
theorem d_Md_sort_28 : decode b_Md_sort 28 = .ok (.putfield 95, 3) := by decide +kernel
theorem d_Md_sort_31 : decode b_Md_sort 31 = .ok (.aload_n 0, 1) := by decide +kernel
theorem d_Md_sort_32 : decode b_Md_sort 32 = .ok (.getfield 89, 3) := by decide +kernel
theorem d_Md_sort_35 : decode b_Md_sort 35 = .ok (.iconst 1, 1) := by decide +kernel
theorem d_Md_sort_36 : decode b_Md_sort 36 = .ok (.isub, 1) := by decide +kernel
theorem d_Md_sort_37 : decode b_Md_sort 37 = .ok (.ireturn, 1) := by decide +kernel
theorem fl_Md_86 : Cond.fieldLink R_Md 86 "RuleTreesModel" "thrown" "I" ∈ TB := tb_of 720 (by decide +kernel) (by decide +kernel)
theorem fl_Md_95 : Cond.fieldLink R_Md 95 "RuleTreesModel" "known" "Z" ∈ TB := tb_of 734 (by decide +kernel) (by decide +kernel)
abbrev rm_Md_sort : Room := { frames := 0, cells := 0, slots := 0, locals := 0 }
def f_Md_sort_0 (s_self : Nat → Nat → Int32) : Option ((Int32) × (Nat → Nat → Int32)) :=
  nm (st2 s_self 0 0 0) fun s_self_1 =>
  if (s_self_1 0 1) = 6 then
    some (((-1)), s_self_1)
  else
    nm (st2 s_self_1 0 1 ((s_self_1 0 1) + 1)) fun s_self_3 =>
    nm (st2 s_self_3 0 14 0) fun s_self_4 =>
    some (((s_self_4 0 1) - 1), s_self_4)
set_option maxHeartbeats 4000000 in
set_option maxRecDepth 100000 in
theorem t_Md_sort_0 {p : Program} {l : Launch} {e : Env} {s : State} {m : MethodId} {args : Array Value} {below : List Frame} {meth : Method} {c : Code} {A : Nat → Prop} {D : va_G} {K : Nat → ClassId} (a_self a_least : Nat → Nat) (X : gx p s m args c b_Md_sort 1 R_Md w_Md_sort D classes (tyK K) A) (hr : meth.sig.returnType = some .int) (hlk : meth.locks = false) (r : Int32) (f_self : Nat → Nat → Int32) (s_self : Nat → Nat → Int32) (h : f_Md_sort_0 s_self = some (r, f_self)) : Gd p l e rm_Md_sort s m args below meth c 0 0 (MQ below (sq D classes (tyK K) (some (.int r)) [wd_Md K a_self (a_least 0) f_self] A) args s 0 0 A) D classes A 1 0 [wd_Md K a_self (a_least 0) s_self] [(0, .ref (a_self 0))] [] := by
  unfold f_Md_sort_0 at h
  refine gd_aload_n X d_Md_sort_0 0 rfl ?_
  refine gd_iconst X (v := 0) d_Md_sort_1 (by decide) ?_
  obtain ⟨s_self_1, es_self_1, h⟩ := nm_e' h
  refine gd_put X (ci := 7) (C := R_Md) (T := F_Md) (N := 36) (ty := .int) (w' := [wd_Md K a_self (a_least 0) s_self_1]) 0 0 rfl rfl rfl (in_Md _) t_Md t_Md_ok n_Md 0 (by decide) (List.mem_cons_of_mem _ fl_Md_86) rfl rfl (by decide +kernel) rfl rfl (Nat.le_of_ble_eq_true rfl) d_Md_sort_2 (by rw [es_self_1]; rfl) ?_
  refine gd_aload_n X d_Md_sort_5 0 rfl ?_
  refine gd_get X (ci := 7) (C := R_Md) (T := F_Md) (N := 36) (v := .int (s_self_1 0 1)) 0 0 rfl rfl rfl (in_Md _) 1 (by decide) (List.mem_cons_of_mem _ fl_Md_89) rfl rfl d_Md_sort_6 ?_
  refine gd_bipush X (v := 6) d_Md_sort_9 (by decide) ?_
  refine gd_icmp_ne X (tgt := 16) d_Md_sort_11 (by decide) (fun c_2 => ?_) (fun c_2 => ?_)
  · replace h := it_n c_2 h
    refine gd_aload_n X d_Md_sort_16 0 rfl ?_
    refine gd_dup X d_Md_sort_17 rfl ?_
    refine gd_get X (ci := 7) (C := R_Md) (T := F_Md) (N := 36) (v := .int (s_self_1 0 1)) 0 0 rfl rfl rfl (in_Md _) 1 (by decide) (List.mem_cons_of_mem _ fl_Md_89) rfl rfl d_Md_sort_18 ?_
    refine gd_iconst X (v := 1) d_Md_sort_21 (by decide) ?_
    refine gd_iadd X d_Md_sort_22 ?_
    obtain ⟨s_self_3, es_self_3, h⟩ := nm_e' h
    refine gd_put X (ci := 7) (C := R_Md) (T := F_Md) (N := 36) (ty := .int) (w' := [wd_Md K a_self (a_least 0) s_self_3]) 0 0 rfl rfl rfl (in_Md _) t_Md t_Md_ok n_Md 1 (by decide) (List.mem_cons_of_mem _ fl_Md_89) rfl rfl (by decide +kernel) rfl rfl (Nat.le_of_ble_eq_true rfl) d_Md_sort_23 (by rw [es_self_3]; rfl) ?_
    refine gd_aload_n X d_Md_sort_26 0 rfl ?_
    refine gd_iconst X (v := 0) d_Md_sort_27 (by decide) ?_
    obtain ⟨s_self_4, es_self_4, h⟩ := nm_e' h
    refine gd_put X (ci := 7) (C := R_Md) (T := F_Md) (N := 36) (ty := .boolean) (w' := [wd_Md K a_self (a_least 0) s_self_4]) 0 0 rfl rfl rfl (in_Md _) t_Md t_Md_ok n_Md 14 (by decide) (List.mem_cons_of_mem _ fl_Md_95) rfl rfl (by decide +kernel) (by decide) (by decide) (Nat.le_of_ble_eq_true rfl) d_Md_sort_28 (by rw [es_self_4]; rfl) ?_
    refine gd_aload_n X d_Md_sort_31 0 rfl ?_
    refine gd_get X (ci := 7) (C := R_Md) (T := F_Md) (N := 36) (v := .int (s_self_4 0 1)) 0 0 rfl rfl rfl (in_Md _) 1 (by decide) (List.mem_cons_of_mem _ fl_Md_89) rfl rfl d_Md_sort_32 ?_
    refine gd_iconst X (v := 1) d_Md_sort_35 (by decide) ?_
    refine gd_isub X d_Md_sort_36 ?_
    cases h
    exact gd_iret X hr hlk d_Md_sort_37
  · replace h := it_p c_2 h
    refine gd_iconst X (v := (-1)) d_Md_sort_14 (by decide) ?_
    cases h
    exact gd_iret X hr hlk d_Md_sort_15
def m_Md_sort (s_self : Nat → Nat → Int32) : Option ((Int32) × (Nat → Nat → Int32)) := f_Md_sort_0 s_self
set_option maxHeartbeats 4000000 in
set_option maxRecDepth 100000 in
theorem c_Md_sort (l : Launch) (D : va_G) (K : Nat → ClassId) (a_self a_least : Nat → Nat) (s_self : Nat → Nat → Int32) (r : Int32) (f_self : Nat → Nat → Int32) (h : m_Md_sort s_self = some (r, f_self)) : SMet l y_Md_sort w_Md_sort rm_Md_sort D classes (tyK K) [.ref (a_self 0)] (some (.int r)) [wd_Md K a_self (a_least 0) s_self] [wd_Md K a_self (a_least 0) f_self] := by
  refine sm_of R_Md (by decide) rfl rfl (Nat.le_of_ble_eq_true rfl) ?_
  intro p e s m below meth c A X hr hlk
  refine gd_loc (lv' := [(0, .ref (a_self 0))]) [0] rfl ?_
  exact t_Md_sort_0 a_self a_least X hr hlk r f_self s_self h
abbrev b_Md_variable : ByteArray := prog_10_method_6_code
def y_Md_variable : MethodName := ⟨R_Md, "variable", "(I)I"⟩
def w_Md_variable : List Cond := .code y_Md_variable b_Md_variable 2 (some .int) :: TB
theorem k_Md_variable : Cond.code y_Md_variable b_Md_variable 2 (some .int) ∈ TB := tb_of 838 (by decide +kernel) (by decide +kernel)
theorem d_Md_variable_0 : decode b_Md_variable 0 = .ok (.aload_n 0, 1) := by decide +kernel
theorem d_Md_variable_1 : decode b_Md_variable 1 = .ok (.iconst 0, 1) := by decide +kernel
theorem d_Md_variable_2 : decode b_Md_variable 2 = .ok (.putfield 86, 3) := by decide +kernel
theorem d_Md_variable_5 : decode b_Md_variable 5 = .ok (.aload_n 0, 1) := by decide +kernel
theorem d_Md_variable_6 : decode b_Md_variable 6 = .ok (.iload_n 1, 1) := by decide +kernel
theorem d_Md_variable_7 : decode b_Md_variable 7 = .ok (.invokevirtual 99, 3) := by decide +kernel
theorem d_Md_variable_10 : decode b_Md_variable 10 = .ok (.ifCond .eq 12, 3) := by decide +kernel
theorem d_Md_variable_13 : decode b_Md_variable 13 = .ok (.aload_n 0, 1) := by decide +kernel
theorem d_Md_variable_14 : decode b_Md_variable 14 = .ok (.getfield 92, 3) := by decide +kernel
theorem d_Md_variable_17 : decode b_Md_variable 17 = .ok (.bipush 20, 2) := by decide +kernel
theorem d_Md_variable_19 : decode b_Md_variable 19 = .ok (.if_icmp .ne 5, 3) := by decide +kernel
theorem d_Md_variable_22 : decode b_Md_variable 22 = .ok (.iconst (-1), 1) := by decide +kernel
theorem d_Md_variable_23 : decode b_Md_variable 23 = .ok (.ireturn, 1) := by decide +kernel
theorem d_Md_variable_24 : decode b_Md_variable 24 = .ok (.aload_n 0, 1) := by decide +kernel
theorem d_Md_variable_25 : decode b_Md_variable 25 = .ok (.getfield 7, 3) := by decide +kernel
theorem d_Md_variable_28 : decode b_Md_variable 28 = .ok (.aload_n 0, 1) := by decide +kernel
theorem d_Md_variable_29 : decode b_Md_variable 29 = .ok (.getfield 92, 3) := by decide +kernel
theorem d_Md_variable_32 : decode b_Md_variable 32 = .ok (.iload_n 1, 1) := by decide +kernel
theorem d_Md_variable_33 : decode b_Md_variable 33 = .ok (.iastore, 1) := by decide +kernel
theorem d_Md_variable_34 : decode b_Md_variable 34 = .ok (.aload_n 0, 1) := by decide +kernel
theorem d_Md_variable_35 : decode b_Md_variable 35 = .ok (.dup, 1) := by decide +kernel
theorem d_Md_variable_36 : decode b_Md_variable 36 = .ok (.getfield 92, 3) := by decide +kernel
theorem d_Md_variable_39 : decode b_Md_variable 39 = .ok (.iconst 1, 1) := by decide +kernel
theorem d_Md_variable_40 : decode b_Md_variable 40 = .ok (.iadd, 1) := by decide +kernel
theorem d_Md_variable_41 : decode b_Md_variable 41 = .ok (.putfield 92, 3) := by decide +kernel
theorem d_Md_variable_44 : decode b_Md_variable 44 = .ok (.aload_n 0, 1) := by decide +kernel
theorem d_Md_variable_45 : decode b_Md_variable 45 = .ok (.getfield 92, 3) := by decide +kernel
theorem d_Md_variable_48 : decode b_Md_variable 48 = .ok (.iconst 1, 1) := by decide +kernel
theorem d_Md_variable_49 : decode b_Md_variable 49 = .ok (.isub, 1) := by decide +kernel
theorem d_Md_variable_50 : decode b_Md_variable 50 = .ok (.ireturn, 1) := by decide +kernel
theorem ml_Md_99 : Cond.methodLink R_Md 99 ⟨"RuleTreesModel", "isSort", "(I)Z"⟩ ∈ TB := tb_of 839 (by decide +kernel) (by decide +kernel)
theorem u_Md_isSort : (Cond.instanceMethod y_Md_isSort ∈ TB ∧ Cond.selects R_Md y_Md_isSort y_Md_isSort ∈ TB) ∧ Cond.initialized R_Md ∈ TB ∧ Cond.code y_Md_isSort b_Md_isSort 2 (some .boolean) ∈ TB := ⟨⟨(tb_of 841 (by decide +kernel) (by decide +kernel)), (tb_of 35 (by decide +kernel) (by decide +kernel))⟩, (tb_of 70 (by decide +kernel) (by decide +kernel)), k_Md_isSort⟩
theorem fl_Md_7 : Cond.fieldLink R_Md 7 "RuleTreesModel" "sortOf" "[I" ∈ TB := tb_of 723 (by decide +kernel) (by decide +kernel)
abbrev rm_Md_variable : Room := { frames := 1, cells := 0, slots := 0, locals := 21 }
def f_Md_variable_0 (s_self : Nat → Nat → Int32) (v1 : Int32) : Option ((Int32) × (Nat → Nat → Int32)) :=
  nm (st2 s_self 0 0 0) fun s_self_1 =>
  bd1 (m_Md_isSort s_self_1 v1) fun r_2 =>
  if r_2 = 0 then
    some (((-1)), s_self_1)
  else
    if (s_self_1 0 2) = 20 then
      some (((-1)), s_self_1)
    else
      ck (s_self_1 0 2) 20 <| nm (st2 s_self_1 1 (Int32.toNatClampNeg (s_self_1 0 2)) v1) fun s_self_7 =>
      nm (st2 s_self_7 0 2 ((s_self_7 0 2) + 1)) fun s_self_8 =>
      some (((s_self_8 0 2) - 1), s_self_8)
set_option maxHeartbeats 4000000 in
set_option maxRecDepth 100000 in
theorem t_Md_variable_0 {p : Program} {l : Launch} {e : Env} {s : State} {m : MethodId} {args : Array Value} {below : List Frame} {meth : Method} {c : Code} {A : Nat → Prop} {D : va_G} {K : Nat → ClassId} (a_self a_least : Nat → Nat) (X : gx p s m args c b_Md_variable 2 R_Md w_Md_variable D classes (tyK K) A) (hr : meth.sig.returnType = some .int) (hlk : meth.locks = false) (r : Int32) (f_self : Nat → Nat → Int32) (s_self : Nat → Nat → Int32) (v1 : Int32) (h : f_Md_variable_0 s_self v1 = some (r, f_self)) : Gd p l e rm_Md_variable s m args below meth c 0 0 (MQ below (sq D classes (tyK K) (some (.int r)) [wd_Md K a_self (a_least 0) f_self] A) args s 0 0 A) D classes A 2 0 [wd_Md K a_self (a_least 0) s_self] [(0, .ref (a_self 0)), (1, .int v1)] [] := by
  unfold f_Md_variable_0 at h
  refine gd_aload_n X d_Md_variable_0 0 rfl ?_
  refine gd_iconst X (v := 0) d_Md_variable_1 (by decide) ?_
  obtain ⟨s_self_1, es_self_1, h⟩ := nm_e' h
  refine gd_put X (ci := 7) (C := R_Md) (T := F_Md) (N := 36) (ty := .int) (w' := [wd_Md K a_self (a_least 0) s_self_1]) 0 0 rfl rfl rfl (in_Md _) t_Md t_Md_ok n_Md 0 (by decide) (List.mem_cons_of_mem _ fl_Md_86) rfl rfl (by decide +kernel) rfl rfl (Nat.le_of_ble_eq_true rfl) d_Md_variable_2 (by rw [es_self_1]; rfl) ?_
  refine gd_aload_n X d_Md_variable_5 0 rfl ?_
  refine gd_iload_n X d_Md_variable_6 1 rfl ?_
  obtain ⟨r_2, hc_3, h⟩ := bd1_e h
  refine gd_fI X (gd_V X (As := [.int v1]) (rest := []) (c_Md_isSort l D K a_self a_least s_self_1 v1 r_2 hc_3) 1 (gi_V ml_Md_99 u_Md_isSort) rfl ⟨rfl, rfl⟩ (by decide +kernel) ⟨by decide, by decide⟩ (ci := 7) rfl rfl rfl rfl rfl rfl (Nat.le_of_ble_eq_true rfl) ⟨Nat.zero_le _, Nat.zero_le _⟩ d_Md_variable_7) ?_
  refine gd_if_eq X (tgt := 22) d_Md_variable_10 (by decide) (fun c_4 => ?_) (fun c_4 => ?_)
  · replace h := it_p c_4 h
    refine gd_iconst X (v := (-1)) d_Md_variable_22 (by decide) ?_
    cases h
    exact gd_iret X hr hlk d_Md_variable_23
  · replace h := it_n c_4 h
    refine gd_aload_n X d_Md_variable_13 0 rfl ?_
    refine gd_get X (ci := 7) (C := R_Md) (T := F_Md) (N := 36) (v := .int (s_self_1 0 2)) 0 0 rfl rfl rfl (in_Md _) 2 (by decide) (List.mem_cons_of_mem _ fl_Md_92) rfl rfl d_Md_variable_14 ?_
    refine gd_bipush X (v := 20) d_Md_variable_17 (by decide) ?_
    refine gd_icmp_ne X (tgt := 24) d_Md_variable_19 (by decide) (fun c_5 => ?_) (fun c_5 => ?_)
    · replace h := it_n c_5 h
      refine gd_aload_n X d_Md_variable_24 0 rfl ?_
      refine gd_get X (ci := 7) (C := R_Md) (T := F_Md) (N := 36) (v := .ref (a_self 1)) 0 0 rfl rfl rfl (in_Md _) 3 (by decide) (List.mem_cons_of_mem _ fl_Md_7) rfl rfl d_Md_variable_25 ?_
      refine gd_aload_n X d_Md_variable_28 0 rfl ?_
      refine gd_get X (ci := 7) (C := R_Md) (T := F_Md) (N := 36) (v := .int (s_self_1 0 2)) 0 0 rfl rfl rfl (in_Md _) 2 (by decide) (List.mem_cons_of_mem _ fl_Md_92) rfl rfl d_Md_variable_29 ?_
      refine gd_iload_n X d_Md_variable_32 1 rfl ?_
      obtain ⟨hi_6, h⟩ := ck_e h
      obtain ⟨s_self_7, es_self_7, h⟩ := nm_e' h
      refine gd_iast X (w' := [wd_Md K a_self (a_least 0) s_self_7]) 0 1 0 rfl rfl rfl hi_6 d_Md_variable_33 (by rw [es_self_7]; rfl) ?_
      refine gd_aload_n X d_Md_variable_34 0 rfl ?_
      refine gd_dup X d_Md_variable_35 rfl ?_
      refine gd_get X (ci := 7) (C := R_Md) (T := F_Md) (N := 36) (v := .int (s_self_7 0 2)) 0 0 rfl rfl rfl (in_Md _) 2 (by decide) (List.mem_cons_of_mem _ fl_Md_92) rfl rfl d_Md_variable_36 ?_
      refine gd_iconst X (v := 1) d_Md_variable_39 (by decide) ?_
      refine gd_iadd X d_Md_variable_40 ?_
      obtain ⟨s_self_8, es_self_8, h⟩ := nm_e' h
      refine gd_put X (ci := 7) (C := R_Md) (T := F_Md) (N := 36) (ty := .int) (w' := [wd_Md K a_self (a_least 0) s_self_8]) 0 0 rfl rfl rfl (in_Md _) t_Md t_Md_ok n_Md 2 (by decide) (List.mem_cons_of_mem _ fl_Md_92) rfl rfl (by decide +kernel) rfl rfl (Nat.le_of_ble_eq_true rfl) d_Md_variable_41 (by rw [es_self_8]; rfl) ?_
      refine gd_aload_n X d_Md_variable_44 0 rfl ?_
      refine gd_get X (ci := 7) (C := R_Md) (T := F_Md) (N := 36) (v := .int (s_self_8 0 2)) 0 0 rfl rfl rfl (in_Md _) 2 (by decide) (List.mem_cons_of_mem _ fl_Md_92) rfl rfl d_Md_variable_45 ?_
      refine gd_iconst X (v := 1) d_Md_variable_48 (by decide) ?_
      refine gd_isub X d_Md_variable_49 ?_
      cases h
      exact gd_iret X hr hlk d_Md_variable_50
    · replace h := it_p c_5 h
      refine gd_iconst X (v := (-1)) d_Md_variable_22 (by decide) ?_
      cases h
      exact gd_iret X hr hlk d_Md_variable_23
def m_Md_variable (s_self : Nat → Nat → Int32) (v1 : Int32) : Option ((Int32) × (Nat → Nat → Int32)) := f_Md_variable_0 s_self v1
set_option maxHeartbeats 4000000 in
set_option maxRecDepth 100000 in
theorem c_Md_variable (l : Launch) (D : va_G) (K : Nat → ClassId) (a_self a_least : Nat → Nat) (s_self : Nat → Nat → Int32) (v1 : Int32) (r : Int32) (f_self : Nat → Nat → Int32) (h : m_Md_variable s_self v1 = some (r, f_self)) : SMet l y_Md_variable w_Md_variable rm_Md_variable D classes (tyK K) [.ref (a_self 0), .int v1] (some (.int r)) [wd_Md K a_self (a_least 0) s_self] [wd_Md K a_self (a_least 0) f_self] := by
  refine sm_of R_Md (by decide) rfl rfl (Nat.le_of_ble_eq_true rfl) ?_
  intro p e s m below meth c A X hr hlk
  refine gd_loc (lv' := [(0, .ref (a_self 0)), (1, .int v1)]) [0, 1] rfl ?_
  exact t_Md_variable_0 a_self a_least X hr hlk r f_self s_self v1 h
abbrev b_Md_begin : ByteArray := prog_10_method_7_code
def y_Md_begin : MethodName := ⟨R_Md, "begin", "(I)I"⟩
def w_Md_begin : List Cond := .code y_Md_begin b_Md_begin 2 (some .int) :: TB
theorem k_Md_begin : Cond.code y_Md_begin b_Md_begin 2 (some .int) ∈ TB := tb_of 846 (by decide +kernel) (by decide +kernel)
theorem d_Md_begin_0 : decode b_Md_begin 0 = .ok (.aload_n 0, 1) := by decide +kernel
theorem d_Md_begin_1 : decode b_Md_begin 1 = .ok (.iconst 0, 1) := by decide +kernel
theorem d_Md_begin_2 : decode b_Md_begin 2 = .ok (.putfield 86, 3) := by decide +kernel
theorem d_Md_begin_5 : decode b_Md_begin 5 = .ok (.aload_n 0, 1) := by decide +kernel
theorem d_Md_begin_6 : decode b_Md_begin 6 = .ok (.iload_n 1, 1) := by decide +kernel
theorem d_Md_begin_7 : decode b_Md_begin 7 = .ok (.invokevirtual 99, 3) := by decide +kernel
theorem d_Md_begin_10 : decode b_Md_begin 10 = .ok (.ifCond .eq 19, 3) := by decide +kernel
theorem d_Md_begin_13 : decode b_Md_begin 13 = .ok (.aload_n 0, 1) := by decide +kernel
theorem d_Md_begin_14 : decode b_Md_begin 14 = .ok (.getfield 103, 3) := by decide +kernel
theorem d_Md_begin_17 : decode b_Md_begin 17 = .ok (.bipush 30, 2) := by decide +kernel
theorem d_Md_begin_19 : decode b_Md_begin 19 = .ok (.if_icmp .eq 10, 3) := by decide +kernel
theorem d_Md_begin_22 : decode b_Md_begin 22 = .ok (.aload_n 0, 1) := by decide +kernel
theorem d_Md_begin_23 : decode b_Md_begin 23 = .ok (.getfield 106, 3) := by decide +kernel
theorem d_Md_begin_26 : decode b_Md_begin 26 = .ok (.ifCond .eq 5, 3) := by decide +kernel
theorem d_Md_begin_29 : decode b_Md_begin 29 = .ok (.iconst 0, 1) := by decide +kernel
theorem d_Md_begin_30 : decode b_Md_begin 30 = .ok (.ireturn, 1) := by decide +kernel
theorem d_Md_begin_31 : decode b_Md_begin 31 = .ok (.aload_n 0, 1) := by decide +kernel
theorem d_Md_begin_32 : decode b_Md_begin 32 = .ok (.iconst 1, 1) := by decide +kernel
theorem d_Md_begin_33 : decode b_Md_begin 33 = .ok (.putfield 106, 3) := by decide +kernel
theorem d_Md_begin_36 : decode b_Md_begin 36 = .ok (.aload_n 0, 1) := by decide +kernel
theorem d_Md_begin_37 : decode b_Md_begin 37 = .ok (.getfield 13, 3) := by decide +kernel
theorem d_Md_begin_40 : decode b_Md_begin 40 = .ok (.bipush 30, 2) := by decide +kernel
theorem d_Md_begin_42 : decode b_Md_begin 42 = .ok (.iload_n 1, 1) := by decide +kernel
theorem d_Md_begin_43 : decode b_Md_begin 43 = .ok (.iastore, 1) := by decide +kernel
theorem d_Md_begin_44 : decode b_Md_begin 44 = .ok (.aload_n 0, 1) := by decide +kernel
theorem d_Md_begin_45 : decode b_Md_begin 45 = .ok (.getfield 16, 3) := by decide +kernel
theorem d_Md_begin_48 : decode b_Md_begin 48 = .ok (.bipush 30, 2) := by decide +kernel
theorem d_Md_begin_50 : decode b_Md_begin 50 = .ok (.iconst 0, 1) := by decide +kernel
theorem d_Md_begin_51 : decode b_Md_begin 51 = .ok (.iastore, 1) := by decide +kernel
theorem d_Md_begin_52 : decode b_Md_begin 52 = .ok (.iconst 1, 1) := by decide +kernel
theorem d_Md_begin_53 : decode b_Md_begin 53 = .ok (.ireturn, 1) := by decide +kernel
theorem fl_Md_103 : Cond.fieldLink R_Md 103 "RuleTreesModel" "rules" "I" ∈ TB := tb_of 724 (by decide +kernel) (by decide +kernel)
theorem fl_Md_106 : Cond.fieldLink R_Md 106 "RuleTreesModel" "open" "Z" ∈ TB := tb_of 725 (by decide +kernel) (by decide +kernel)
theorem fl_Md_13 : Cond.fieldLink R_Md 13 "RuleTreesModel" "ruleSorts" "[I" ∈ TB := tb_of 726 (by decide +kernel) (by decide +kernel)
theorem fl_Md_16 : Cond.fieldLink R_Md 16 "RuleTreesModel" "ruleSizes" "[I" ∈ TB := tb_of 727 (by decide +kernel) (by decide +kernel)
abbrev rm_Md_begin : Room := { frames := 1, cells := 0, slots := 0, locals := 21 }
def f_Md_begin_0 (s_self : Nat → Nat → Int32) (v1 : Int32) : Option ((Int32) × (Nat → Nat → Int32)) :=
  nm (st2 s_self 0 0 0) fun s_self_1 =>
  bd1 (m_Md_isSort s_self_1 v1) fun r_2 =>
  if r_2 = 0 then
    some ((0), s_self_1)
  else
    if (s_self_1 0 4) = 30 then
      some ((0), s_self_1)
    else
      if (s_self_1 0 5) = 0 then
        nm (st2 s_self_1 0 5 1) fun s_self_7 =>
        ck 30 31 <| nm (st2 s_self_7 2 (Int32.toNatClampNeg 30) v1) fun s_self_9 =>
        ck 30 31 <| nm (st2 s_self_9 3 (Int32.toNatClampNeg 30) 0) fun s_self_11 =>
        some ((1), s_self_11)
      else
        some ((0), s_self_1)
set_option maxHeartbeats 4000000 in
set_option maxRecDepth 100000 in
theorem t_Md_begin_0 {p : Program} {l : Launch} {e : Env} {s : State} {m : MethodId} {args : Array Value} {below : List Frame} {meth : Method} {c : Code} {A : Nat → Prop} {D : va_G} {K : Nat → ClassId} (a_self a_least : Nat → Nat) (X : gx p s m args c b_Md_begin 2 R_Md w_Md_begin D classes (tyK K) A) (hr : meth.sig.returnType = some .int) (hlk : meth.locks = false) (r : Int32) (f_self : Nat → Nat → Int32) (s_self : Nat → Nat → Int32) (v1 : Int32) (h : f_Md_begin_0 s_self v1 = some (r, f_self)) : Gd p l e rm_Md_begin s m args below meth c 0 0 (MQ below (sq D classes (tyK K) (some (.int r)) [wd_Md K a_self (a_least 0) f_self] A) args s 0 0 A) D classes A 2 0 [wd_Md K a_self (a_least 0) s_self] [(0, .ref (a_self 0)), (1, .int v1)] [] := by
  unfold f_Md_begin_0 at h
  refine gd_aload_n X d_Md_begin_0 0 rfl ?_
  refine gd_iconst X (v := 0) d_Md_begin_1 (by decide) ?_
  obtain ⟨s_self_1, es_self_1, h⟩ := nm_e' h
  refine gd_put X (ci := 7) (C := R_Md) (T := F_Md) (N := 36) (ty := .int) (w' := [wd_Md K a_self (a_least 0) s_self_1]) 0 0 rfl rfl rfl (in_Md _) t_Md t_Md_ok n_Md 0 (by decide) (List.mem_cons_of_mem _ fl_Md_86) rfl rfl (by decide +kernel) rfl rfl (Nat.le_of_ble_eq_true rfl) d_Md_begin_2 (by rw [es_self_1]; rfl) ?_
  refine gd_aload_n X d_Md_begin_5 0 rfl ?_
  refine gd_iload_n X d_Md_begin_6 1 rfl ?_
  obtain ⟨r_2, hc_3, h⟩ := bd1_e h
  refine gd_fI X (gd_V X (As := [.int v1]) (rest := []) (c_Md_isSort l D K a_self a_least s_self_1 v1 r_2 hc_3) 1 (gi_V ml_Md_99 u_Md_isSort) rfl ⟨rfl, rfl⟩ (by decide +kernel) ⟨by decide, by decide⟩ (ci := 7) rfl rfl rfl rfl rfl rfl (Nat.le_of_ble_eq_true rfl) ⟨Nat.zero_le _, Nat.zero_le _⟩ d_Md_begin_7) ?_
  refine gd_if_eq X (tgt := 29) d_Md_begin_10 (by decide) (fun c_4 => ?_) (fun c_4 => ?_)
  · replace h := it_p c_4 h
    refine gd_iconst X (v := 0) d_Md_begin_29 (by decide) ?_
    cases h
    exact gd_iret X hr hlk d_Md_begin_30
  · replace h := it_n c_4 h
    refine gd_aload_n X d_Md_begin_13 0 rfl ?_
    refine gd_get X (ci := 7) (C := R_Md) (T := F_Md) (N := 36) (v := .int (s_self_1 0 4)) 0 0 rfl rfl rfl (in_Md _) 4 (by decide) (List.mem_cons_of_mem _ fl_Md_103) rfl rfl d_Md_begin_14 ?_
    refine gd_bipush X (v := 30) d_Md_begin_17 (by decide) ?_
    refine gd_icmp_eq X (tgt := 29) d_Md_begin_19 (by decide) (fun c_5 => ?_) (fun c_5 => ?_)
    · replace h := it_p c_5 h
      refine gd_iconst X (v := 0) d_Md_begin_29 (by decide) ?_
      cases h
      exact gd_iret X hr hlk d_Md_begin_30
    · replace h := it_n c_5 h
      refine gd_aload_n X d_Md_begin_22 0 rfl ?_
      refine gd_get X (ci := 7) (C := R_Md) (T := F_Md) (N := 36) (v := .int (s_self_1 0 5)) 0 0 rfl rfl rfl (in_Md _) 5 (by decide) (List.mem_cons_of_mem _ fl_Md_106) rfl rfl d_Md_begin_23 ?_
      refine gd_if_eq X (tgt := 31) d_Md_begin_26 (by decide) (fun c_6 => ?_) (fun c_6 => ?_)
      · replace h := it_p c_6 h
        refine gd_aload_n X d_Md_begin_31 0 rfl ?_
        refine gd_iconst X (v := 1) d_Md_begin_32 (by decide) ?_
        obtain ⟨s_self_7, es_self_7, h⟩ := nm_e' h
        refine gd_put X (ci := 7) (C := R_Md) (T := F_Md) (N := 36) (ty := .boolean) (w' := [wd_Md K a_self (a_least 0) s_self_7]) 0 0 rfl rfl rfl (in_Md _) t_Md t_Md_ok n_Md 5 (by decide) (List.mem_cons_of_mem _ fl_Md_106) rfl rfl (by decide +kernel) (by decide) (by decide) (Nat.le_of_ble_eq_true rfl) d_Md_begin_33 (by rw [es_self_7]; rfl) ?_
        refine gd_aload_n X d_Md_begin_36 0 rfl ?_
        refine gd_get X (ci := 7) (C := R_Md) (T := F_Md) (N := 36) (v := .ref (a_self 2)) 0 0 rfl rfl rfl (in_Md _) 6 (by decide) (List.mem_cons_of_mem _ fl_Md_13) rfl rfl d_Md_begin_37 ?_
        refine gd_bipush X (v := 30) d_Md_begin_40 (by decide) ?_
        refine gd_iload_n X d_Md_begin_42 1 rfl ?_
        obtain ⟨hi_8, h⟩ := ck_e h
        obtain ⟨s_self_9, es_self_9, h⟩ := nm_e' h
        refine gd_iast X (w' := [wd_Md K a_self (a_least 0) s_self_9]) 0 2 0 rfl rfl rfl hi_8 d_Md_begin_43 (by rw [es_self_9]; rfl) ?_
        refine gd_aload_n X d_Md_begin_44 0 rfl ?_
        refine gd_get X (ci := 7) (C := R_Md) (T := F_Md) (N := 36) (v := .ref (a_self 3)) 0 0 rfl rfl rfl (in_Md _) 7 (by decide) (List.mem_cons_of_mem _ fl_Md_16) rfl rfl d_Md_begin_45 ?_
        refine gd_bipush X (v := 30) d_Md_begin_48 (by decide) ?_
        refine gd_iconst X (v := 0) d_Md_begin_50 (by decide) ?_
        obtain ⟨hi_10, h⟩ := ck_e h
        obtain ⟨s_self_11, es_self_11, h⟩ := nm_e' h
        refine gd_iast X (w' := [wd_Md K a_self (a_least 0) s_self_11]) 0 3 0 rfl rfl rfl hi_10 d_Md_begin_51 (by rw [es_self_11]; rfl) ?_
        refine gd_iconst X (v := 1) d_Md_begin_52 (by decide) ?_
        cases h
        exact gd_iret X hr hlk d_Md_begin_53
      · replace h := it_n c_6 h
        refine gd_iconst X (v := 0) d_Md_begin_29 (by decide) ?_
        cases h
        exact gd_iret X hr hlk d_Md_begin_30
def m_Md_begin (s_self : Nat → Nat → Int32) (v1 : Int32) : Option ((Int32) × (Nat → Nat → Int32)) := f_Md_begin_0 s_self v1
set_option maxHeartbeats 4000000 in
set_option maxRecDepth 100000 in
theorem c_Md_begin (l : Launch) (D : va_G) (K : Nat → ClassId) (a_self a_least : Nat → Nat) (s_self : Nat → Nat → Int32) (v1 : Int32) (r : Int32) (f_self : Nat → Nat → Int32) (h : m_Md_begin s_self v1 = some (r, f_self)) : SMet l y_Md_begin w_Md_begin rm_Md_begin D classes (tyK K) [.ref (a_self 0), .int v1] (some (.int r)) [wd_Md K a_self (a_least 0) s_self] [wd_Md K a_self (a_least 0) f_self] := by
  refine sm_of R_Md (by decide) rfl rfl (Nat.le_of_ble_eq_true rfl) ?_
  intro p e s m below meth c A X hr hlk
  refine gd_loc (lv' := [(0, .ref (a_self 0)), (1, .int v1)]) [0, 1] rfl ?_
  exact t_Md_begin_0 a_self a_least X hr hlk r f_self s_self v1 h
