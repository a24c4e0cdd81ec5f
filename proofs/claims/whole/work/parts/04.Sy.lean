abbrev b_Sy_at : ByteArray := prog_6_method_2_code
def y_Sy_at : MethodName := ⟨R_Sy, "at", "(I)I"⟩
def w_Sy_at : List Cond := .code y_Sy_at b_Sy_at 2 (some .int) :: TB
theorem k_Sy_at : Cond.code y_Sy_at b_Sy_at 2 (some .int) ∈ TB := tb_of 414 (by decide +kernel) (by decide +kernel)
theorem d_Sy_at_0 : decode b_Sy_at 0 = .ok (.iload_n 1, 1) := by decide +kernel
theorem d_Sy_at_1 : decode b_Sy_at 1 = .ok (.ifCond .lt 29, 3) := by decide +kernel
theorem d_Sy_at_4 : decode b_Sy_at 4 = .ok (.iload_n 1, 1) := by decide +kernel
theorem d_Sy_at_5 : decode b_Sy_at 5 = .ok (.aload_n 0, 1) := by decide +kernel
theorem d_Sy_at_6 : decode b_Sy_at 6 = .ok (.getfield 21, 3) := by decide +kernel
theorem d_Sy_at_9 : decode b_Sy_at 9 = .ok (.if_icmp .ge 21, 3) := by decide +kernel
theorem d_Sy_at_12 : decode b_Sy_at 12 = .ok (.iload_n 1, 1) := by decide +kernel
theorem d_Sy_at_13 : decode b_Sy_at 13 = .ok (.aload_n 0, 1) := by decide +kernel
theorem d_Sy_at_14 : decode b_Sy_at 14 = .ok (.getfield 15, 3) := by decide +kernel
theorem d_Sy_at_17 : decode b_Sy_at 17 = .ok (.arraylength, 1) := by decide +kernel
theorem d_Sy_at_18 : decode b_Sy_at 18 = .ok (.if_icmp .ge 12, 3) := by decide +kernel
theorem d_Sy_at_21 : decode b_Sy_at 21 = .ok (.aload_n 0, 1) := by decide +kernel
theorem d_Sy_at_22 : decode b_Sy_at 22 = .ok (.getfield 15, 3) := by decide +kernel
theorem d_Sy_at_25 : decode b_Sy_at 25 = .ok (.iload_n 1, 1) := by decide +kernel
theorem d_Sy_at_26 : decode b_Sy_at 26 = .ok (.iaload, 1) := by decide +kernel
theorem d_Sy_at_27 : decode b_Sy_at 27 = .ok (.goto 6, 3) := by decide +kernel
theorem d_Sy_at_30 : decode b_Sy_at 30 = .ok (.sipush (-1000), 3) := by decide +kernel
theorem d_Sy_at_33 : decode b_Sy_at 33 = .ok (.ireturn, 1) := by decide +kernel
theorem fl_Sy_21 : Cond.fieldLink R_Sy 21 "RuleTrees$Symbols" "length" "I" ∈ TB := tb_of 213 (by decide +kernel) (by decide +kernel)
theorem fl_Sy_15 : Cond.fieldLink R_Sy 15 "RuleTrees$Symbols" "items" "[I" ∈ TB := tb_of 212 (by decide +kernel) (by decide +kernel)
abbrev rm_Sy_at : Room := { frames := 0, cells := 0, slots := 0, locals := 0 }
def f_Sy_at_0 (n_self : Nat) (s_self : Nat → Nat → Int32) (v1 : Int32) : Option ((Int32)) :=
  if v1 < 0 then
    some ((-1000))
  else
    if (s_self 0 1) ≤ v1 then
      some ((-1000))
    else
      if (nI n_self) ≤ v1 then
        some ((-1000))
      else
        ck v1 n_self <|
        some (s_self 1 (Int32.toNatClampNeg v1))
set_option maxHeartbeats 4000000 in
set_option maxRecDepth 100000 in
theorem t_Sy_at_0 {p : Program} {l : Launch} {e : Env} {s : State} {m : MethodId} {args : Array Value} {below : List Frame} {meth : Method} {c : Code} {A : Nat → Prop} {D : va_G} {K : Nat → ClassId} (a_self : Nat → Nat) (n_self : Nat) (X : gx p s m args c b_Sy_at 2 R_Sy w_Sy_at D classes (tyK K) A) (hr : meth.sig.returnType = some .int) (hlk : meth.locks = false) (r : Int32) (s_self : Nat → Nat → Int32) (v1 : Int32) (h : f_Sy_at_0 n_self s_self v1 = some r) : Gd p l e rm_Sy_at s m args below meth c 0 0 (MQ below (sq D classes (tyK K) (some (.int r)) [wd_Sy K a_self n_self s_self] A) args s 0 0 A) D classes A 2 0 [wd_Sy K a_self n_self s_self] [(0, .ref (a_self 0)), (1, .int v1)] [] := by
  unfold f_Sy_at_0 at h
  refine gd_iload_n X d_Sy_at_0 1 rfl ?_
  refine gd_if_lt X (tgt := 30) d_Sy_at_1 (by decide) (fun c_1 => ?_) (fun c_1 => ?_)
  · replace h := it_p c_1 h
    refine gd_sipush X (v := (-1000)) d_Sy_at_30 (by decide) ?_
    cases h
    exact gd_iret X hr hlk d_Sy_at_33
  · replace h := it_n c_1 h
    refine gd_iload_n X d_Sy_at_4 1 rfl ?_
    refine gd_aload_n X d_Sy_at_5 0 rfl ?_
    refine gd_get X (ci := 0) (C := R_Sy) (T := F_Sy) (N := 2) (v := .int (s_self 0 1)) 0 0 rfl rfl rfl (in_Sy _) 1 (by decide) (List.mem_cons_of_mem _ fl_Sy_21) rfl rfl d_Sy_at_6 ?_
    refine gd_icmp_ge X (tgt := 30) d_Sy_at_9 (by decide) (fun c_2 => ?_) (fun c_2 => ?_)
    · replace h := it_p c_2 h
      refine gd_sipush X (v := (-1000)) d_Sy_at_30 (by decide) ?_
      cases h
      exact gd_iret X hr hlk d_Sy_at_33
    · replace h := it_n c_2 h
      refine gd_iload_n X d_Sy_at_12 1 rfl ?_
      refine gd_aload_n X d_Sy_at_13 0 rfl ?_
      refine gd_get X (ci := 0) (C := R_Sy) (T := F_Sy) (N := 2) (v := .ref (a_self 1)) 0 0 rfl rfl rfl (in_Sy _) 0 (by decide) (List.mem_cons_of_mem _ fl_Sy_15) rfl rfl d_Sy_at_14 ?_
      refine gd_alen X 0 1 0 rfl rfl rfl (v := nI n_self) rfl d_Sy_at_17 ?_
      refine gd_icmp_ge X (tgt := 30) d_Sy_at_18 (by decide) (fun c_3 => ?_) (fun c_3 => ?_)
      · replace h := it_p c_3 h
        refine gd_sipush X (v := (-1000)) d_Sy_at_30 (by decide) ?_
        cases h
        exact gd_iret X hr hlk d_Sy_at_33
      · replace h := it_n c_3 h
        refine gd_aload_n X d_Sy_at_21 0 rfl ?_
        refine gd_get X (ci := 0) (C := R_Sy) (T := F_Sy) (N := 2) (v := .ref (a_self 1)) 0 0 rfl rfl rfl (in_Sy _) 0 (by decide) (List.mem_cons_of_mem _ fl_Sy_15) rfl rfl d_Sy_at_22 ?_
        refine gd_iload_n X d_Sy_at_25 1 rfl ?_
        obtain ⟨hi_4, h⟩ := ck_e h
        refine gd_iald X 0 1 0 rfl rfl rfl hi_4 d_Sy_at_26 ?_
        refine gd_goto X (tgt := 33) d_Sy_at_27 (by decide) ?_
        cases h
        exact gd_iret X hr hlk d_Sy_at_33
def m_Sy_at (n_self : Nat) (s_self : Nat → Nat → Int32) (v1 : Int32) : Option ((Int32)) := f_Sy_at_0 n_self s_self v1
set_option maxHeartbeats 4000000 in
set_option maxRecDepth 100000 in
theorem c_Sy_at (l : Launch) (D : va_G) (K : Nat → ClassId) (a_self : Nat → Nat) (n_self : Nat) (s_self : Nat → Nat → Int32) (v1 : Int32) (r : Int32) (h : m_Sy_at n_self s_self v1 = some r) : SMet l y_Sy_at w_Sy_at rm_Sy_at D classes (tyK K) [.ref (a_self 0), .int v1] (some (.int r)) [wd_Sy K a_self n_self s_self] [wd_Sy K a_self n_self s_self] := by
  refine sm_of R_Sy (by decide) rfl rfl (Nat.le_of_ble_eq_true rfl) ?_
  intro p e s m below meth c A X hr hlk
  refine gd_loc (lv' := [(0, .ref (a_self 0)), (1, .int v1)]) [0, 1] rfl ?_
  exact t_Sy_at_0 a_self n_self X hr hlk r s_self v1 h
abbrev b_Sy_append : ByteArray := prog_6_method_3_code
def y_Sy_append : MethodName := ⟨R_Sy, "append", "(I)Z"⟩
def w_Sy_append : List Cond := .code y_Sy_append b_Sy_append 2 (some .boolean) :: TB
theorem k_Sy_append : Cond.code y_Sy_append b_Sy_append 2 (some .boolean) ∈ TB := tb_of 353 (by decide +kernel) (by decide +kernel)
theorem d_Sy_append_0 : decode b_Sy_append 0 = .ok (.aload_n 0, 1) := by decide +kernel
theorem d_Sy_append_1 : decode b_Sy_append 1 = .ok (.getfield 21, 3) := by decide +kernel
theorem d_Sy_append_4 : decode b_Sy_append 4 = .ok (.ifCond .lt 15, 3) := by decide +kernel
theorem d_Sy_append_7 : decode b_Sy_append 7 = .ok (.aload_n 0, 1) := by decide +kernel
theorem d_Sy_append_8 : decode b_Sy_append 8 = .ok (.getfield 21, 3) := by decide +kernel
theorem d_Sy_append_11 : decode b_Sy_append 11 = .ok (.aload_n 0, 1) := by decide +kernel
theorem d_Sy_append_12 : decode b_Sy_append 12 = .ok (.getfield 15, 3) := by decide +kernel
theorem d_Sy_append_15 : decode b_Sy_append 15 = .ok (.arraylength, 1) := by decide +kernel
theorem d_Sy_append_16 : decode b_Sy_append 16 = .ok (.if_icmp .lt 5, 3) := by decide +kernel
theorem d_Sy_append_19 : decode b_Sy_append 19 = .ok (.iconst 0, 1) := by decide +kernel
theorem d_Sy_append_20 : decode b_Sy_append 20 = .ok (.ireturn, 1) := by decide +kernel
theorem d_Sy_append_21 : decode b_Sy_append 21 = .ok (.aload_n 0, 1) := by decide +kernel
theorem d_Sy_append_22 : decode b_Sy_append 22 = .ok (.getfield 15, 3) := by decide +kernel
theorem d_Sy_append_25 : decode b_Sy_append 25 = .ok (.aload_n 0, 1) := by decide +kernel
theorem d_Sy_append_26 : decode b_Sy_append 26 = .ok (.getfield 21, 3) := by decide +kernel
theorem d_Sy_append_29 : decode b_Sy_append 29 = .ok (.iload_n 1, 1) := by decide +kernel
theorem d_Sy_append_30 : decode b_Sy_append 30 = .ok (.iastore, 1) := by decide +kernel
theorem d_Sy_append_31 : decode b_Sy_append 31 = .ok (.aload_n 0, 1) := by decide +kernel
theorem d_Sy_append_32 : decode b_Sy_append 32 = .ok (.dup, 1) := by decide +kernel
theorem d_Sy_append_33 : decode b_Sy_append 33 = .ok (.getfield 21, 3) := by decide +kernel
theorem d_Sy_append_36 : decode b_Sy_append 36 = .ok (.iconst 1, 1) := by decide +kernel
theorem d_Sy_append_37 : decode b_Sy_append 37 = .ok (.iadd, 1) := by decide +kernel
theorem d_Sy_append_38 : decode b_Sy_append 38 = .ok (.putfield 21, 3) := by decide +kernel
theorem d_Sy_append_41 : decode b_Sy_append 41 = .ok (.iconst 1, 1) := by decide +kernel
theorem d_Sy_append_42 : decode b_Sy_append 42 = .ok (.ireturn, 1) := by decide +kernel
abbrev rm_Sy_append : Room := { frames := 0, cells := 0, slots := 0, locals := 0 }
def f_Sy_append_0 (n_self : Nat) (s_self : Nat → Nat → Int32) (v1 : Int32) : Option ((Int32) × (Nat → Nat → Int32)) :=
  if (s_self 0 1) < 0 then
    some ((0), s_self)
  else
    if (s_self 0 1) < (nI n_self) then
      ck (s_self 0 1) n_self <| nm (st2 s_self 1 (Int32.toNatClampNeg (s_self 0 1)) v1) fun s_self_4 =>
      nm (st2 s_self_4 0 1 ((s_self_4 0 1) + 1)) fun s_self_5 =>
      some ((1), s_self_5)
    else
      some ((0), s_self)
set_option maxHeartbeats 4000000 in
set_option maxRecDepth 100000 in
theorem t_Sy_append_0 {p : Program} {l : Launch} {e : Env} {s : State} {m : MethodId} {args : Array Value} {below : List Frame} {meth : Method} {c : Code} {A : Nat → Prop} {D : va_G} {K : Nat → ClassId} (a_self : Nat → Nat) (n_self : Nat) (X : gx p s m args c b_Sy_append 2 R_Sy w_Sy_append D classes (tyK K) A) (hr : meth.sig.returnType = some .boolean) (hlk : meth.locks = false) (r : Int32) (f_self : Nat → Nat → Int32) (s_self : Nat → Nat → Int32) (v1 : Int32) (h : f_Sy_append_0 n_self s_self v1 = some (r, f_self)) : Gd p l e rm_Sy_append s m args below meth c 0 0 (MQ below (sq D classes (tyK K) (some (.int r)) [wd_Sy K a_self n_self f_self] A) args s 0 0 A) D classes A 2 0 [wd_Sy K a_self n_self s_self] [(0, .ref (a_self 0)), (1, .int v1)] [] := by
  unfold f_Sy_append_0 at h
  refine gd_aload_n X d_Sy_append_0 0 rfl ?_
  refine gd_get X (ci := 0) (C := R_Sy) (T := F_Sy) (N := 2) (v := .int (s_self 0 1)) 0 0 rfl rfl rfl (in_Sy _) 1 (by decide) (List.mem_cons_of_mem _ fl_Sy_21) rfl rfl d_Sy_append_1 ?_
  refine gd_if_lt X (tgt := 19) d_Sy_append_4 (by decide) (fun c_1 => ?_) (fun c_1 => ?_)
  · replace h := it_p c_1 h
    refine gd_iconst X (v := 0) d_Sy_append_19 (by decide) ?_
    cases h
    exact gd_zret X hr hlk (by decide) d_Sy_append_20
  · replace h := it_n c_1 h
    refine gd_aload_n X d_Sy_append_7 0 rfl ?_
    refine gd_get X (ci := 0) (C := R_Sy) (T := F_Sy) (N := 2) (v := .int (s_self 0 1)) 0 0 rfl rfl rfl (in_Sy _) 1 (by decide) (List.mem_cons_of_mem _ fl_Sy_21) rfl rfl d_Sy_append_8 ?_
    refine gd_aload_n X d_Sy_append_11 0 rfl ?_
    refine gd_get X (ci := 0) (C := R_Sy) (T := F_Sy) (N := 2) (v := .ref (a_self 1)) 0 0 rfl rfl rfl (in_Sy _) 0 (by decide) (List.mem_cons_of_mem _ fl_Sy_15) rfl rfl d_Sy_append_12 ?_
    refine gd_alen X 0 1 0 rfl rfl rfl (v := nI n_self) rfl d_Sy_append_15 ?_
    refine gd_icmp_lt X (tgt := 21) d_Sy_append_16 (by decide) (fun c_2 => ?_) (fun c_2 => ?_)
    · replace h := it_p c_2 h
      refine gd_aload_n X d_Sy_append_21 0 rfl ?_
      refine gd_get X (ci := 0) (C := R_Sy) (T := F_Sy) (N := 2) (v := .ref (a_self 1)) 0 0 rfl rfl rfl (in_Sy _) 0 (by decide) (List.mem_cons_of_mem _ fl_Sy_15) rfl rfl d_Sy_append_22 ?_
      refine gd_aload_n X d_Sy_append_25 0 rfl ?_
      refine gd_get X (ci := 0) (C := R_Sy) (T := F_Sy) (N := 2) (v := .int (s_self 0 1)) 0 0 rfl rfl rfl (in_Sy _) 1 (by decide) (List.mem_cons_of_mem _ fl_Sy_21) rfl rfl d_Sy_append_26 ?_
      refine gd_iload_n X d_Sy_append_29 1 rfl ?_
      obtain ⟨hi_3, h⟩ := ck_e h
      obtain ⟨s_self_4, es_self_4, h⟩ := nm_e' h
      refine gd_iast X (w' := [wd_Sy K a_self n_self s_self_4]) 0 1 0 rfl rfl rfl hi_3 d_Sy_append_30 (by rw [es_self_4]; rfl) ?_
      refine gd_aload_n X d_Sy_append_31 0 rfl ?_
      refine gd_dup X d_Sy_append_32 rfl ?_
      refine gd_get X (ci := 0) (C := R_Sy) (T := F_Sy) (N := 2) (v := .int (s_self_4 0 1)) 0 0 rfl rfl rfl (in_Sy _) 1 (by decide) (List.mem_cons_of_mem _ fl_Sy_21) rfl rfl d_Sy_append_33 ?_
      refine gd_iconst X (v := 1) d_Sy_append_36 (by decide) ?_
      refine gd_iadd X d_Sy_append_37 ?_
      obtain ⟨s_self_5, es_self_5, h⟩ := nm_e' h
      refine gd_put X (ci := 0) (C := R_Sy) (T := F_Sy) (N := 2) (ty := .int) (w' := [wd_Sy K a_self n_self s_self_5]) 0 0 rfl rfl rfl (in_Sy _) t_Sy t_Sy_ok n_Sy 1 (by decide) (List.mem_cons_of_mem _ fl_Sy_21) rfl rfl (by decide +kernel) rfl rfl (Nat.le_of_ble_eq_true rfl) d_Sy_append_38 (by rw [es_self_5]; rfl) ?_
      refine gd_iconst X (v := 1) d_Sy_append_41 (by decide) ?_
      cases h
      exact gd_zret X hr hlk (by decide) d_Sy_append_42
    · replace h := it_n c_2 h
      refine gd_iconst X (v := 0) d_Sy_append_19 (by decide) ?_
      cases h
      exact gd_zret X hr hlk (by decide) d_Sy_append_20
def m_Sy_append (n_self : Nat) (s_self : Nat → Nat → Int32) (v1 : Int32) : Option ((Int32) × (Nat → Nat → Int32)) := f_Sy_append_0 n_self s_self v1
set_option maxHeartbeats 4000000 in
set_option maxRecDepth 100000 in
theorem c_Sy_append (l : Launch) (D : va_G) (K : Nat → ClassId) (a_self : Nat → Nat) (n_self : Nat) (s_self : Nat → Nat → Int32) (v1 : Int32) (r : Int32) (f_self : Nat → Nat → Int32) (h : m_Sy_append n_self s_self v1 = some (r, f_self)) : SMet l y_Sy_append w_Sy_append rm_Sy_append D classes (tyK K) [.ref (a_self 0), .int v1] (some (.int r)) [wd_Sy K a_self n_self s_self] [wd_Sy K a_self n_self f_self] := by
  refine sm_of R_Sy (by decide) rfl rfl (Nat.le_of_ble_eq_true rfl) ?_
  intro p e s m below meth c A X hr hlk
  refine gd_loc (lv' := [(0, .ref (a_self 0)), (1, .int v1)]) [0, 1] rfl ?_
  exact t_Sy_append_0 a_self n_self X hr hlk r f_self s_self v1 h
abbrev b_Sy_empty : ByteArray := prog_6_method_4_code
def y_Sy_empty : MethodName := ⟨R_Sy, "empty", "()I"⟩
def w_Sy_empty : List Cond := .code y_Sy_empty b_Sy_empty 2 (some .int) :: TB
theorem k_Sy_empty : Cond.code y_Sy_empty b_Sy_empty 2 (some .int) ∈ TB := tb_of 361 (by decide +kernel) (by decide +kernel)
theorem d_Sy_empty_0 : decode b_Sy_empty 0 = .ok (.aload_n 0, 1) := by decide +kernel
theorem d_Sy_empty_1 : decode b_Sy_empty 1 = .ok (.getfield 21, 3) := by decide +kernel
theorem d_Sy_empty_4 : decode b_Sy_empty 4 = .ok (.istore_n 1, 1) := by decide +kernel
theorem d_Sy_empty_5 : decode b_Sy_empty 5 = .ok (.aload_n 0, 1) := by decide +kernel
theorem d_Sy_empty_6 : decode b_Sy_empty 6 = .ok (.iconst 0, 1) := by decide +kernel
theorem d_Sy_empty_7 : decode b_Sy_empty 7 = .ok (.putfield 21, 3) := by decide +kernel
theorem d_Sy_empty_10 : decode b_Sy_empty 10 = .ok (.iload_n 1, 1) := by decide +kernel
theorem d_Sy_empty_11 : decode b_Sy_empty 11 = .ok (.ireturn, 1) := by decide +kernel
abbrev rm_Sy_empty : Room := { frames := 0, cells := 0, slots := 0, locals := 0 }
def f_Sy_empty_0 (n_self : Nat) (s_self : Nat → Nat → Int32) : Option ((Int32) × (Nat → Nat → Int32)) :=
  nm (s_self 0 1) fun v1_1 =>
  nm (st2 s_self 0 1 0) fun s_self_2 =>
  some ((v1_1), s_self_2)
set_option maxHeartbeats 4000000 in
set_option maxRecDepth 100000 in
theorem t_Sy_empty_0 {p : Program} {l : Launch} {e : Env} {s : State} {m : MethodId} {args : Array Value} {below : List Frame} {meth : Method} {c : Code} {A : Nat → Prop} {D : va_G} {K : Nat → ClassId} (a_self : Nat → Nat) (n_self : Nat) (X : gx p s m args c b_Sy_empty 2 R_Sy w_Sy_empty D classes (tyK K) A) (hr : meth.sig.returnType = some .int) (hlk : meth.locks = false) (r : Int32) (f_self : Nat → Nat → Int32) (s_self : Nat → Nat → Int32) (h : f_Sy_empty_0 n_self s_self = some (r, f_self)) : Gd p l e rm_Sy_empty s m args below meth c 0 0 (MQ below (sq D classes (tyK K) (some (.int r)) [wd_Sy K a_self n_self f_self] A) args s 0 0 A) D classes A 2 0 [wd_Sy K a_self n_self s_self] [(0, .ref (a_self 0))] [] := by
  unfold f_Sy_empty_0 at h
  refine gd_aload_n X d_Sy_empty_0 0 rfl ?_
  refine gd_get X (ci := 0) (C := R_Sy) (T := F_Sy) (N := 2) (v := .int (s_self 0 1)) 0 0 rfl rfl rfl (in_Sy _) 1 (by decide) (List.mem_cons_of_mem _ fl_Sy_21) rfl rfl d_Sy_empty_1 ?_
  obtain ⟨v1_1, ev1_1, h⟩ := nm_e' h
  refine gd_topi ev1_1 ?_
  refine gd_istore_n X (lv' := [(1, .int v1_1), (0, .ref (a_self 0))]) d_Sy_empty_4 rfl (by decide) rfl ?_
  refine gd_aload_n X d_Sy_empty_5 1 rfl ?_
  refine gd_iconst X (v := 0) d_Sy_empty_6 (by decide) ?_
  obtain ⟨s_self_2, es_self_2, h⟩ := nm_e' h
  refine gd_put X (ci := 0) (C := R_Sy) (T := F_Sy) (N := 2) (ty := .int) (w' := [wd_Sy K a_self n_self s_self_2]) 0 0 rfl rfl rfl (in_Sy _) t_Sy t_Sy_ok n_Sy 1 (by decide) (List.mem_cons_of_mem _ fl_Sy_21) rfl rfl (by decide +kernel) rfl rfl (Nat.le_of_ble_eq_true rfl) d_Sy_empty_7 (by rw [es_self_2]; rfl) ?_
  refine gd_iload_n X d_Sy_empty_10 0 rfl ?_
  cases h
  exact gd_iret X hr hlk d_Sy_empty_11
def m_Sy_empty (n_self : Nat) (s_self : Nat → Nat → Int32) : Option ((Int32) × (Nat → Nat → Int32)) := f_Sy_empty_0 n_self s_self
set_option maxHeartbeats 4000000 in
set_option maxRecDepth 100000 in
theorem c_Sy_empty (l : Launch) (D : va_G) (K : Nat → ClassId) (a_self : Nat → Nat) (n_self : Nat) (s_self : Nat → Nat → Int32) (r : Int32) (f_self : Nat → Nat → Int32) (h : m_Sy_empty n_self s_self = some (r, f_self)) : SMet l y_Sy_empty w_Sy_empty rm_Sy_empty D classes (tyK K) [.ref (a_self 0)] (some (.int r)) [wd_Sy K a_self n_self s_self] [wd_Sy K a_self n_self f_self] := by
  refine sm_of R_Sy (by decide) rfl rfl (Nat.le_of_ble_eq_true rfl) ?_
  intro p e s m below meth c A X hr hlk
  refine gd_loc (lv' := [(0, .ref (a_self 0))]) [0] rfl ?_
  exact t_Sy_empty_0 a_self n_self X hr hlk r f_self s_self h
abbrev b_Sy_copyOf : ByteArray := prog_6_method_5_code
def y_Sy_copyOf : MethodName := ⟨R_Sy, "copyOf", "(LRuleTrees$Symbols;)V"⟩
def w_Sy_copyOf : List Cond := .code y_Sy_copyOf b_Sy_copyOf 3 none :: TB
theorem k_Sy_copyOf : Cond.code y_Sy_copyOf b_Sy_copyOf 3 none ∈ TB := tb_of 639 (by decide +kernel) (by decide +kernel)
theorem d_Sy_copyOf_0 : decode b_Sy_copyOf 0 = .ok (.aload_n 0, 1) := by decide +kernel
theorem d_Sy_copyOf_1 : decode b_Sy_copyOf 1 = .ok (.iconst 0, 1) := by decide +kernel
theorem d_Sy_copyOf_2 : decode b_Sy_copyOf 2 = .ok (.putfield 21, 3) := by decide +kernel
theorem d_Sy_copyOf_5 : decode b_Sy_copyOf 5 = .ok (.iconst 0, 1) := by decide +kernel
theorem d_Sy_copyOf_6 : decode b_Sy_copyOf 6 = .ok (.istore_n 2, 1) := by decide +kernel
theorem d_Sy_copyOf_7 : decode b_Sy_copyOf 7 = .ok (.iload_n 2, 1) := by decide +kernel
theorem d_Sy_copyOf_8 : decode b_Sy_copyOf 8 = .ok (.aload_n 1, 1) := by decide +kernel
theorem d_Sy_copyOf_9 : decode b_Sy_copyOf 9 = .ok (.getfield 21, 3) := by decide +kernel
theorem d_Sy_copyOf_12 : decode b_Sy_copyOf 12 = .ok (.if_icmp .ge 19, 3) := by decide +kernel
theorem d_Sy_copyOf_15 : decode b_Sy_copyOf 15 = .ok (.aload_n 0, 1) := by decide +kernel
theorem d_Sy_copyOf_16 : decode b_Sy_copyOf 16 = .ok (.aload_n 1, 1) := by decide +kernel
theorem d_Sy_copyOf_17 : decode b_Sy_copyOf 17 = .ok (.iload_n 2, 1) := by decide +kernel
theorem d_Sy_copyOf_18 : decode b_Sy_copyOf 18 = .ok (.invokevirtual 25, 3) := by decide +kernel
theorem d_Sy_copyOf_21 : decode b_Sy_copyOf 21 = .ok (.invokevirtual 29, 3) := by decide +kernel
theorem d_Sy_copyOf_24 : decode b_Sy_copyOf 24 = .ok (.pop, 1) := by decide +kernel
theorem d_Sy_copyOf_25 : decode b_Sy_copyOf 25 = .ok (.iinc 2 1, 3) := by decide +kernel
theorem d_Sy_copyOf_28 : decode b_Sy_copyOf 28 = .ok (.goto (-21), 3) := by decide +kernel
theorem d_Sy_copyOf_31 : decode b_Sy_copyOf 31 = .ok (.return_, 1) := by decide +kernel
theorem ml_Sy_25 : Cond.methodLink R_Sy 25 ⟨"RuleTrees$Symbols", "at", "(I)I"⟩ ∈ TB := tb_of 640 (by decide +kernel) (by decide +kernel)
theorem u_Sy_at : (Cond.instanceMethod y_Sy_at ∈ TB ∧ Cond.selects R_Sy y_Sy_at y_Sy_at ∈ TB) ∧ Cond.initialized R_Sy ∈ TB ∧ Cond.code y_Sy_at b_Sy_at 2 (some .int) ∈ TB := ⟨⟨(tb_of 412 (by decide +kernel) (by decide +kernel)), (tb_of 413 (by decide +kernel) (by decide +kernel))⟩, (tb_of 67 (by decide +kernel) (by decide +kernel)), k_Sy_at⟩
theorem ml_Sy_29 : Cond.methodLink R_Sy 29 ⟨"RuleTrees$Symbols", "append", "(I)Z"⟩ ∈ TB := tb_of 641 (by decide +kernel) (by decide +kernel)
theorem u_Sy_append : (Cond.instanceMethod y_Sy_append ∈ TB ∧ Cond.selects R_Sy y_Sy_append y_Sy_append ∈ TB) ∧ Cond.initialized R_Sy ∈ TB ∧ Cond.code y_Sy_append b_Sy_append 2 (some .boolean) ∈ TB := ⟨⟨(tb_of 351 (by decide +kernel) (by decide +kernel)), (tb_of 352 (by decide +kernel) (by decide +kernel))⟩, (tb_of 67 (by decide +kernel) (by decide +kernel)), k_Sy_append⟩
abbrev rm_Sy_copyOf : Room := { frames := 1, cells := 0, slots := 0, locals := 21 }
def f_Sy_copyOf_7 (N : Nat) (n_self : Nat) (n_p0 : Nat) (kb : (Nat → Nat → Int32) → Int32 → Option ((Nat → Nat → Int32))) (kx31 : (Nat → Nat → Int32) → Option ((Nat → Nat → Int32))) (s_self s_p0 : Nat → Nat → Int32) (v2 : Int32) : Option ((Nat → Nat → Int32)) :=
  if (s_p0 0 1) ≤ v2 then
    kx31 s_self
  else
    bd1 (m_Sy_at n_p0 s_p0 v2) fun r_2 =>
    bd2 (m_Sy_append n_self s_self r_2) fun r_4 s_self_5 =>
    nm (v2 + 1) fun v2_7 =>
    kb s_self_5 v2_7
set_option maxHeartbeats 4000000 in
set_option maxRecDepth 100000 in
theorem t_Sy_copyOf_7 {p : Program} {l : Launch} {e : Env} {s : State} {m : MethodId} {args : Array Value} {below : List Frame} {meth : Method} {c : Code} {A : Nat → Prop} {D : va_G} {K : Nat → ClassId} (a_self a_p0 : Nat → Nat) (n_self : Nat) (n_p0 : Nat) (X : gx p s m args c b_Sy_copyOf 3 R_Sy w_Sy_copyOf D classes (tyK K) A) (hr : meth.sig.returnType = none) (hlk : meth.locks = false) (N : Nat) (f_self : Nat → Nat → Int32) (s_self s_p0 : Nat → Nat → Int32) (v2 : Int32) (kb : (Nat → Nat → Int32) → Int32 → Option ((Nat → Nat → Int32))) (hkb : ∀ (s_self : Nat → Nat → Int32) (v2 : Int32), kb s_self v2 = some f_self → Gd p l e rm_Sy_copyOf s m args below meth c 0 0 (MQ below (sq D classes (tyK K) none [wd_Sy K a_self n_self f_self, wd_Sy K a_p0 n_p0 s_p0] A) args s 0 0 A) D classes A 3 7 [wd_Sy K a_self n_self s_self, wd_Sy K a_p0 n_p0 s_p0] [(0, .ref (a_self 0)), (1, .ref (a_p0 0)), (2, .int v2)] []) (kx31 : (Nat → Nat → Int32) → Option ((Nat → Nat → Int32))) (hkx31 : ∀ (s_self : Nat → Nat → Int32), kx31 s_self = some f_self → Gd p l e rm_Sy_copyOf s m args below meth c 0 0 (MQ below (sq D classes (tyK K) none [wd_Sy K a_self n_self f_self, wd_Sy K a_p0 n_p0 s_p0] A) args s 0 0 A) D classes A 3 31 [wd_Sy K a_self n_self s_self, wd_Sy K a_p0 n_p0 s_p0] [] []) (h : f_Sy_copyOf_7 N n_self n_p0 kb kx31 s_self s_p0 v2 = some f_self) : Gd p l e rm_Sy_copyOf s m args below meth c 0 0 (MQ below (sq D classes (tyK K) none [wd_Sy K a_self n_self f_self, wd_Sy K a_p0 n_p0 s_p0] A) args s 0 0 A) D classes A 3 7 [wd_Sy K a_self n_self s_self, wd_Sy K a_p0 n_p0 s_p0] [(0, .ref (a_self 0)), (1, .ref (a_p0 0)), (2, .int v2)] [] := by
  unfold f_Sy_copyOf_7 at h
  refine gd_iload_n X d_Sy_copyOf_7 2 rfl ?_
  refine gd_aload_n X d_Sy_copyOf_8 1 rfl ?_
  refine gd_get X (ci := 0) (C := R_Sy) (T := F_Sy) (N := 2) (v := .int (s_p0 0 1)) 1 0 rfl rfl rfl (in_Sy _) 1 (by decide) (List.mem_cons_of_mem _ fl_Sy_21) rfl rfl d_Sy_copyOf_9 ?_
  refine gd_icmp_ge X (tgt := 31) d_Sy_copyOf_12 (by decide) (fun c_1 => ?_) (fun c_1 => ?_)
  · replace h := it_p c_1 h
    refine gd_loc (lv' := []) [] rfl ?_
    exact hkx31 s_self h
  · replace h := it_n c_1 h
    refine gd_aload_n X d_Sy_copyOf_15 0 rfl ?_
    refine gd_aload_n X d_Sy_copyOf_16 1 rfl ?_
    refine gd_iload_n X d_Sy_copyOf_17 2 rfl ?_
    obtain ⟨r_2, hc_3, h⟩ := bd1_e h
    refine gd_pI X (gd_V X (As := [.int v2]) (rest := [.ref (a_self 0)]) (c_Sy_at l D K a_p0 n_p0 s_p0 v2 r_2 hc_3) 1 (gi_V ml_Sy_25 u_Sy_at) rfl ⟨rfl, rfl⟩ (by decide +kernel) ⟨by decide, by decide⟩ (ci := 0) rfl rfl rfl rfl rfl rfl (Nat.le_of_ble_eq_true rfl) ⟨Nat.zero_le _, Nat.zero_le _⟩ d_Sy_copyOf_18) [1] rfl rfl ?_
    obtain ⟨r_4, s_self_5, hc_6, h⟩ := bd2_e h
    refine gd_cI X (gd_V X (As := [.int r_2]) (rest := []) (c_Sy_append l D K a_self n_self s_self r_2 r_4 s_self_5 hc_6) 1 (gi_V ml_Sy_29 u_Sy_append) rfl ⟨rfl, rfl⟩ (by decide +kernel) ⟨by decide, by decide⟩ (ci := 0) rfl rfl rfl rfl rfl rfl (Nat.le_of_ble_eq_true rfl) ⟨Nat.zero_le _, Nat.zero_le _⟩ d_Sy_copyOf_21) (w2 := [wd_Sy K a_self n_self s_self_5, wd_Sy K a_p0 n_p0 s_p0]) [0] [1] rfl rfl rfl rfl ⟨rfl, rfl⟩ rfl ?_
    refine gd_pop X d_Sy_copyOf_24 rfl ?_
    obtain ⟨v2_7, ev2_7, h⟩ := nm_e' h
    refine gd_iinc X (v := v2_7) (lv' := [(2, .int v2_7), (0, .ref (a_self 0)), (1, .ref (a_p0 0))]) d_Sy_copyOf_25 (k := 2) rfl (by rw [ev2_7]; rfl) (by decide) rfl ?_
    refine gd_goto X (tgt := 7) d_Sy_copyOf_28 (by decide) ?_
    refine gd_loc (lv' := [(0, .ref (a_self 0)), (1, .ref (a_p0 0)), (2, .int v2_7)]) [1, 2, 0] rfl ?_
    exact hkb s_self_5 v2_7 h
def f_Sy_copyOf_31 (N : Nat) (n_self : Nat) (n_p0 : Nat) (s_self s_p0 : Nat → Nat → Int32) : Option ((Nat → Nat → Int32)) :=
  some s_self
set_option maxHeartbeats 4000000 in
set_option maxRecDepth 100000 in
theorem t_Sy_copyOf_31 {p : Program} {l : Launch} {e : Env} {s : State} {m : MethodId} {args : Array Value} {below : List Frame} {meth : Method} {c : Code} {A : Nat → Prop} {D : va_G} {K : Nat → ClassId} (a_self a_p0 : Nat → Nat) (n_self : Nat) (n_p0 : Nat) (X : gx p s m args c b_Sy_copyOf 3 R_Sy w_Sy_copyOf D classes (tyK K) A) (hr : meth.sig.returnType = none) (hlk : meth.locks = false) (N : Nat) (f_self : Nat → Nat → Int32) (s_self s_p0 : Nat → Nat → Int32) (h : f_Sy_copyOf_31 N n_self n_p0 s_self s_p0 = some f_self) : Gd p l e rm_Sy_copyOf s m args below meth c 0 0 (MQ below (sq D classes (tyK K) none [wd_Sy K a_self n_self f_self, wd_Sy K a_p0 n_p0 s_p0] A) args s 0 0 A) D classes A 3 31 [wd_Sy K a_self n_self s_self, wd_Sy K a_p0 n_p0 s_p0] [] [] := by
  unfold f_Sy_copyOf_31 at h
  cases h
  exact gd_vret X hr hlk d_Sy_copyOf_31
def l_Sy_copyOf_7 (N : Nat) (n_self : Nat) (n_p0 : Nat) (s_p0 : Nat → Nat → Int32) (kx31 : (Nat → Nat → Int32) → Option ((Nat → Nat → Int32))) : Nat → (Nat → Nat → Int32) → Int32 → Option ((Nat → Nat → Int32))
  | 0, _, _ => none
  | n + 1, s_self, v2 => f_Sy_copyOf_7 N n_self n_p0 (l_Sy_copyOf_7 N n_self n_p0 s_p0 kx31 n) kx31 s_self s_p0 v2
set_option maxHeartbeats 4000000 in
set_option maxRecDepth 100000 in
theorem tl_Sy_copyOf_7 {p : Program} {l : Launch} {e : Env} {s : State} {m : MethodId} {args : Array Value} {below : List Frame} {meth : Method} {c : Code} {A : Nat → Prop} {D : va_G} {K : Nat → ClassId} (a_self a_p0 : Nat → Nat) (n_self : Nat) (n_p0 : Nat) (X : gx p s m args c b_Sy_copyOf 3 R_Sy w_Sy_copyOf D classes (tyK K) A) (hr : meth.sig.returnType = none) (hlk : meth.locks = false) (N : Nat) (f_self : Nat → Nat → Int32) (s_p0 : Nat → Nat → Int32) (kx31 : (Nat → Nat → Int32) → Option ((Nat → Nat → Int32))) (hkx31 : ∀ (s_self : Nat → Nat → Int32), kx31 s_self = some f_self → Gd p l e rm_Sy_copyOf s m args below meth c 0 0 (MQ below (sq D classes (tyK K) none [wd_Sy K a_self n_self f_self, wd_Sy K a_p0 n_p0 s_p0] A) args s 0 0 A) D classes A 3 31 [wd_Sy K a_self n_self s_self, wd_Sy K a_p0 n_p0 s_p0] [] []) : ∀ (n : Nat) (s_self : Nat → Nat → Int32) (v2 : Int32), l_Sy_copyOf_7 N n_self n_p0 s_p0 kx31 n s_self v2 = some f_self → Gd p l e rm_Sy_copyOf s m args below meth c 0 0 (MQ below (sq D classes (tyK K) none [wd_Sy K a_self n_self f_self, wd_Sy K a_p0 n_p0 s_p0] A) args s 0 0 A) D classes A 3 7 [wd_Sy K a_self n_self s_self, wd_Sy K a_p0 n_p0 s_p0] [(0, .ref (a_self 0)), (1, .ref (a_p0 0)), (2, .int v2)] [] := by
  intro n
  induction n with
  | zero => intro s_self v2 h; have h : (none : Option ((Nat → Nat → Int32))) = some _ := h; cases h
  | succ n ih =>
    intro s_self v2 h
    exact t_Sy_copyOf_7 a_self a_p0 n_self n_p0 X hr hlk N f_self s_self s_p0 v2 (l_Sy_copyOf_7 N n_self n_p0 s_p0 kx31 n) ih kx31 hkx31 h
def f_Sy_copyOf_0 (N : Nat) (n_self : Nat) (n_p0 : Nat) (s_self s_p0 : Nat → Nat → Int32) : Option ((Nat → Nat → Int32)) :=
  nm (st2 s_self 0 1 0) fun s_self_1 =>
  l_Sy_copyOf_7 N n_self n_p0 s_p0 (fun s_self => f_Sy_copyOf_31 N n_self n_p0 s_self s_p0) N s_self_1 0
set_option maxHeartbeats 4000000 in
set_option maxRecDepth 100000 in
theorem t_Sy_copyOf_0 {p : Program} {l : Launch} {e : Env} {s : State} {m : MethodId} {args : Array Value} {below : List Frame} {meth : Method} {c : Code} {A : Nat → Prop} {D : va_G} {K : Nat → ClassId} (a_self a_p0 : Nat → Nat) (n_self : Nat) (n_p0 : Nat) (X : gx p s m args c b_Sy_copyOf 3 R_Sy w_Sy_copyOf D classes (tyK K) A) (hr : meth.sig.returnType = none) (hlk : meth.locks = false) (N : Nat) (f_self : Nat → Nat → Int32) (s_self s_p0 : Nat → Nat → Int32) (h : f_Sy_copyOf_0 N n_self n_p0 s_self s_p0 = some f_self) : Gd p l e rm_Sy_copyOf s m args below meth c 0 0 (MQ below (sq D classes (tyK K) none [wd_Sy K a_self n_self f_self, wd_Sy K a_p0 n_p0 s_p0] A) args s 0 0 A) D classes A 3 0 [wd_Sy K a_self n_self s_self, wd_Sy K a_p0 n_p0 s_p0] [(0, .ref (a_self 0)), (1, .ref (a_p0 0))] [] := by
  unfold f_Sy_copyOf_0 at h
  refine gd_aload_n X d_Sy_copyOf_0 0 rfl ?_
  refine gd_iconst X (v := 0) d_Sy_copyOf_1 (by decide) ?_
  obtain ⟨s_self_1, es_self_1, h⟩ := nm_e' h
  refine gd_put X (ci := 0) (C := R_Sy) (T := F_Sy) (N := 2) (ty := .int) (w' := [wd_Sy K a_self n_self s_self_1, wd_Sy K a_p0 n_p0 s_p0]) 0 0 rfl rfl rfl (in_Sy _) t_Sy t_Sy_ok n_Sy 1 (by decide) (List.mem_cons_of_mem _ fl_Sy_21) rfl rfl (by decide +kernel) rfl rfl (Nat.le_of_ble_eq_true rfl) d_Sy_copyOf_2 (by rw [es_self_1]; rfl) ?_
  refine gd_iconst X (v := 0) d_Sy_copyOf_5 (by decide) ?_
  refine gd_istore_n X (lv' := [(2, .int 0), (0, .ref (a_self 0)), (1, .ref (a_p0 0))]) d_Sy_copyOf_6 rfl (by decide) rfl ?_
  refine gd_loc (lv' := [(0, .ref (a_self 0)), (1, .ref (a_p0 0)), (2, .int 0)]) [1, 2, 0] rfl ?_
  exact tl_Sy_copyOf_7 a_self a_p0 n_self n_p0 X hr hlk N f_self s_p0 (fun s_self => f_Sy_copyOf_31 N n_self n_p0 s_self s_p0) (fun s_self h => t_Sy_copyOf_31 a_self a_p0 n_self n_p0 X hr hlk N f_self s_self s_p0 h) N s_self_1 0 h
def m_Sy_copyOf (N : Nat) (n_self : Nat) (n_p0 : Nat) (s_self s_p0 : Nat → Nat → Int32) : Option ((Nat → Nat → Int32)) := f_Sy_copyOf_0 N n_self n_p0 s_self s_p0
set_option maxHeartbeats 4000000 in
set_option maxRecDepth 100000 in
theorem c_Sy_copyOf (l : Launch) (D : va_G) (K : Nat → ClassId) (a_self a_p0 : Nat → Nat) (n_self : Nat) (n_p0 : Nat) (N : Nat) (s_self s_p0 : Nat → Nat → Int32) (f_self : Nat → Nat → Int32) (h : m_Sy_copyOf N n_self n_p0 s_self s_p0 = some f_self) : SMet l y_Sy_copyOf w_Sy_copyOf rm_Sy_copyOf D classes (tyK K) [.ref (a_self 0), .ref (a_p0 0)] none [wd_Sy K a_self n_self s_self, wd_Sy K a_p0 n_p0 s_p0] [wd_Sy K a_self n_self f_self, wd_Sy K a_p0 n_p0 s_p0] := by
  refine sm_of R_Sy (by decide) rfl rfl (Nat.le_of_ble_eq_true rfl) ?_
  intro p e s m below meth c A X hr hlk
  refine gd_loc (lv' := [(0, .ref (a_self 0)), (1, .ref (a_p0 0))]) [0, 1] rfl ?_
  exact t_Sy_copyOf_0 a_self a_p0 n_self n_p0 X hr hlk N f_self s_self s_p0 h
abbrev b_Sy_firstDifference : ByteArray := prog_6_method_8_code
def y_Sy_firstDifference : MethodName := ⟨R_Sy, "firstDifference", "(LRuleTrees$Symbols;)I"⟩
def w_Sy_firstDifference : List Cond := .code y_Sy_firstDifference b_Sy_firstDifference 4 (some .int) :: TB
theorem k_Sy_firstDifference : Cond.code y_Sy_firstDifference b_Sy_firstDifference 4 (some .int) ∈ TB := tb_of 707 (by decide +kernel) (by decide +kernel)
theorem d_Sy_firstDifference_0 : decode b_Sy_firstDifference 0 = .ok (.aload_n 0, 1) := by decide +kernel
theorem d_Sy_firstDifference_1 : decode b_Sy_firstDifference 1 = .ok (.getfield 21, 3) := by decide +kernel
theorem d_Sy_firstDifference_4 : decode b_Sy_firstDifference 4 = .ok (.aload_n 1, 1) := by decide +kernel
theorem d_Sy_firstDifference_5 : decode b_Sy_firstDifference 5 = .ok (.getfield 21, 3) := by decide +kernel
theorem d_Sy_firstDifference_8 : decode b_Sy_firstDifference 8 = .ok (.invokestatic 37, 3) := by decide +kernel
theorem d_Sy_firstDifference_11 : decode b_Sy_firstDifference 11 = .ok (.istore_n 2, 1) := by decide +kernel
theorem d_Sy_firstDifference_12 : decode b_Sy_firstDifference 12 = .ok (.iconst 0, 1) := by decide +kernel
theorem d_Sy_firstDifference_13 : decode b_Sy_firstDifference 13 = .ok (.istore_n 3, 1) := by decide +kernel
theorem d_Sy_firstDifference_14 : decode b_Sy_firstDifference 14 = .ok (.iload_n 3, 1) := by decide +kernel
theorem d_Sy_firstDifference_15 : decode b_Sy_firstDifference 15 = .ok (.iload_n 2, 1) := by decide +kernel
theorem d_Sy_firstDifference_16 : decode b_Sy_firstDifference 16 = .ok (.if_icmp .ge 24, 3) := by decide +kernel
theorem d_Sy_firstDifference_19 : decode b_Sy_firstDifference 19 = .ok (.aload_n 0, 1) := by decide +kernel
theorem d_Sy_firstDifference_20 : decode b_Sy_firstDifference 20 = .ok (.iload_n 3, 1) := by decide +kernel
theorem d_Sy_firstDifference_21 : decode b_Sy_firstDifference 21 = .ok (.invokevirtual 25, 3) := by decide +kernel
theorem d_Sy_firstDifference_24 : decode b_Sy_firstDifference 24 = .ok (.aload_n 1, 1) := by decide +kernel
theorem d_Sy_firstDifference_25 : decode b_Sy_firstDifference 25 = .ok (.iload_n 3, 1) := by decide +kernel
theorem d_Sy_firstDifference_26 : decode b_Sy_firstDifference 26 = .ok (.invokevirtual 25, 3) := by decide +kernel
theorem d_Sy_firstDifference_29 : decode b_Sy_firstDifference 29 = .ok (.if_icmp .eq 5, 3) := by decide +kernel
theorem d_Sy_firstDifference_32 : decode b_Sy_firstDifference 32 = .ok (.iload_n 3, 1) := by decide +kernel
theorem d_Sy_firstDifference_33 : decode b_Sy_firstDifference 33 = .ok (.ireturn, 1) := by decide +kernel
theorem d_Sy_firstDifference_34 : decode b_Sy_firstDifference 34 = .ok (.iinc 3 1, 3) := by decide +kernel
theorem d_Sy_firstDifference_37 : decode b_Sy_firstDifference 37 = .ok (.goto (-23), 3) := by decide +kernel
theorem d_Sy_firstDifference_40 : decode b_Sy_firstDifference 40 = .ok (.iload_n 2, 1) := by decide +kernel
theorem d_Sy_firstDifference_41 : decode b_Sy_firstDifference 41 = .ok (.ireturn, 1) := by decide +kernel
theorem ml_Sy_37 : Cond.methodLink R_Sy 37 ⟨"java/lang/Math", "min", "(II)I"⟩ ∈ TB := tb_of 708 (by decide +kernel) (by decide +kernel)
theorem mw_min_1 : Cond.static Lib.Math.min.name ∈ TB := tb_of 449 (by decide +kernel) (by decide +kernel)
theorem mw_min_2 : Cond.initialized "java/lang/Math" ∈ TB := tb_of 68 (by decide +kernel) (by decide +kernel)
theorem mw_min_3 : Cond.code Lib.Math.min.name Lib.Math.min.code 2 (some .int) ∈ TB := tb_of 450 (by decide +kernel) (by decide +kernel)
abbrev rm_Sy_firstDifference : Room := { frames := 1, cells := 0, slots := 0, locals := 21 }
def f_Sy_firstDifference_14 (N : Nat) (n_self : Nat) (n_p0 : Nat) (kb : Int32 → Option ((Int32))) (kx32 : Int32 → Option ((Int32))) (kx40 : Option ((Int32))) (s_self s_p0 : Nat → Nat → Int32) (v2 v3 : Int32) : Option ((Int32)) :=
  if v2 ≤ v3 then
    kx40
  else
    bd1 (m_Sy_at n_self s_self v3) fun r_2 =>
    bd1 (m_Sy_at n_p0 s_p0 v3) fun r_4 =>
    if r_2 = r_4 then
      nm (v3 + 1) fun v3_7 =>
      kb v3_7
    else
      kx32 v3
set_option maxHeartbeats 4000000 in
set_option maxRecDepth 100000 in
theorem t_Sy_firstDifference_14 {p : Program} {l : Launch} {e : Env} {s : State} {m : MethodId} {args : Array Value} {below : List Frame} {meth : Method} {c : Code} {A : Nat → Prop} {D : va_G} {K : Nat → ClassId} (a_self a_p0 : Nat → Nat) (n_self : Nat) (n_p0 : Nat) (X : gx p s m args c b_Sy_firstDifference 4 R_Sy w_Sy_firstDifference D classes (tyK K) A) (hr : meth.sig.returnType = some .int) (hlk : meth.locks = false) (N : Nat) (r : Int32) (s_self s_p0 : Nat → Nat → Int32) (v2 v3 : Int32) (kb : Int32 → Option ((Int32))) (hkb : ∀ (v3 : Int32), kb v3 = some r → Gd p l e rm_Sy_firstDifference s m args below meth c 0 0 (MQ below (sq D classes (tyK K) (some (.int r)) [wd_Sy K a_self n_self s_self, wd_Sy K a_p0 n_p0 s_p0] A) args s 0 0 A) D classes A 4 14 [wd_Sy K a_self n_self s_self, wd_Sy K a_p0 n_p0 s_p0] [(0, .ref (a_self 0)), (1, .ref (a_p0 0)), (2, .int v2), (3, .int v3)] []) (kx32 : Int32 → Option ((Int32))) (hkx32 : ∀ (v3 : Int32), kx32 v3 = some r → Gd p l e rm_Sy_firstDifference s m args below meth c 0 0 (MQ below (sq D classes (tyK K) (some (.int r)) [wd_Sy K a_self n_self s_self, wd_Sy K a_p0 n_p0 s_p0] A) args s 0 0 A) D classes A 4 32 [wd_Sy K a_self n_self s_self, wd_Sy K a_p0 n_p0 s_p0] [(3, .int v3)] []) (kx40 : Option ((Int32))) (hkx40 : kx40 = some r → Gd p l e rm_Sy_firstDifference s m args below meth c 0 0 (MQ below (sq D classes (tyK K) (some (.int r)) [wd_Sy K a_self n_self s_self, wd_Sy K a_p0 n_p0 s_p0] A) args s 0 0 A) D classes A 4 40 [wd_Sy K a_self n_self s_self, wd_Sy K a_p0 n_p0 s_p0] [(2, .int v2)] []) (h : f_Sy_firstDifference_14 N n_self n_p0 kb kx32 kx40 s_self s_p0 v2 v3 = some r) : Gd p l e rm_Sy_firstDifference s m args below meth c 0 0 (MQ below (sq D classes (tyK K) (some (.int r)) [wd_Sy K a_self n_self s_self, wd_Sy K a_p0 n_p0 s_p0] A) args s 0 0 A) D classes A 4 14 [wd_Sy K a_self n_self s_self, wd_Sy K a_p0 n_p0 s_p0] [(0, .ref (a_self 0)), (1, .ref (a_p0 0)), (2, .int v2), (3, .int v3)] [] := by
  unfold f_Sy_firstDifference_14 at h
  refine gd_iload_n X d_Sy_firstDifference_14 3 rfl ?_
  refine gd_iload_n X d_Sy_firstDifference_15 2 rfl ?_
  refine gd_icmp_ge X (tgt := 40) d_Sy_firstDifference_16 (by decide) (fun c_1 => ?_) (fun c_1 => ?_)
  · replace h := it_p c_1 h
    refine gd_loc (lv' := [(2, .int v2)]) [2] rfl ?_
    exact hkx40 h
  · replace h := it_n c_1 h
    refine gd_aload_n X d_Sy_firstDifference_19 0 rfl ?_
    refine gd_iload_n X d_Sy_firstDifference_20 3 rfl ?_
    obtain ⟨r_2, hc_3, h⟩ := bd1_e h
    refine gd_pI X (gd_V X (As := [.int v3]) (rest := []) (c_Sy_at l D K a_self n_self s_self v3 r_2 hc_3) 1 (gi_V ml_Sy_25 u_Sy_at) rfl ⟨rfl, rfl⟩ (by decide +kernel) ⟨by decide, by decide⟩ (ci := 0) rfl rfl rfl rfl rfl rfl (Nat.le_of_ble_eq_true rfl) ⟨Nat.zero_le _, Nat.zero_le _⟩ d_Sy_firstDifference_21) [0] rfl rfl ?_
    refine gd_aload_n X d_Sy_firstDifference_24 1 rfl ?_
    refine gd_iload_n X d_Sy_firstDifference_25 3 rfl ?_
    obtain ⟨r_4, hc_5, h⟩ := bd1_e h
    refine gd_pI X (gd_V X (As := [.int v3]) (rest := [.int r_2]) (c_Sy_at l D K a_p0 n_p0 s_p0 v3 r_4 hc_5) 1 (gi_V ml_Sy_25 u_Sy_at) rfl ⟨rfl, rfl⟩ (by decide +kernel) ⟨by decide, by decide⟩ (ci := 0) rfl rfl rfl rfl rfl rfl (Nat.le_of_ble_eq_true rfl) ⟨Nat.zero_le _, Nat.zero_le _⟩ d_Sy_firstDifference_26) [1] rfl rfl ?_
    refine gd_icmp_eq X (tgt := 34) d_Sy_firstDifference_29 (by decide) (fun c_6 => ?_) (fun c_6 => ?_)
    · replace h := it_p c_6 h
      obtain ⟨v3_7, ev3_7, h⟩ := nm_e' h
      refine gd_iinc X (v := v3_7) (lv' := [(3, .int v3_7), (0, .ref (a_self 0)), (1, .ref (a_p0 0)), (2, .int v2)]) d_Sy_firstDifference_34 (k := 3) rfl (by rw [ev3_7]; rfl) (by decide) rfl ?_
      refine gd_goto X (tgt := 14) d_Sy_firstDifference_37 (by decide) ?_
      refine gd_loc (lv' := [(0, .ref (a_self 0)), (1, .ref (a_p0 0)), (2, .int v2), (3, .int v3_7)]) [1, 2, 3, 0] rfl ?_
      exact hkb v3_7 h
    · replace h := it_n c_6 h
      refine gd_loc (lv' := [(3, .int v3)]) [3] rfl ?_
      exact hkx32 v3 h
def f_Sy_firstDifference_32 (N : Nat) (n_self : Nat) (n_p0 : Nat) (s_self s_p0 : Nat → Nat → Int32) (v3 : Int32) : Option ((Int32)) :=
  some (v3)
set_option maxHeartbeats 4000000 in
set_option maxRecDepth 100000 in
theorem t_Sy_firstDifference_32 {p : Program} {l : Launch} {e : Env} {s : State} {m : MethodId} {args : Array Value} {below : List Frame} {meth : Method} {c : Code} {A : Nat → Prop} {D : va_G} {K : Nat → ClassId} (a_self a_p0 : Nat → Nat) (n_self : Nat) (n_p0 : Nat) (X : gx p s m args c b_Sy_firstDifference 4 R_Sy w_Sy_firstDifference D classes (tyK K) A) (hr : meth.sig.returnType = some .int) (hlk : meth.locks = false) (N : Nat) (r : Int32) (s_self s_p0 : Nat → Nat → Int32) (v3 : Int32) (h : f_Sy_firstDifference_32 N n_self n_p0 s_self s_p0 v3 = some r) : Gd p l e rm_Sy_firstDifference s m args below meth c 0 0 (MQ below (sq D classes (tyK K) (some (.int r)) [wd_Sy K a_self n_self s_self, wd_Sy K a_p0 n_p0 s_p0] A) args s 0 0 A) D classes A 4 32 [wd_Sy K a_self n_self s_self, wd_Sy K a_p0 n_p0 s_p0] [(3, .int v3)] [] := by
  unfold f_Sy_firstDifference_32 at h
  refine gd_iload_n X d_Sy_firstDifference_32 0 rfl ?_
  cases h
  exact gd_iret X hr hlk d_Sy_firstDifference_33
def f_Sy_firstDifference_40 (N : Nat) (n_self : Nat) (n_p0 : Nat) (s_self s_p0 : Nat → Nat → Int32) (v2 : Int32) : Option ((Int32)) :=
  some (v2)
set_option maxHeartbeats 4000000 in
set_option maxRecDepth 100000 in
theorem t_Sy_firstDifference_40 {p : Program} {l : Launch} {e : Env} {s : State} {m : MethodId} {args : Array Value} {below : List Frame} {meth : Method} {c : Code} {A : Nat → Prop} {D : va_G} {K : Nat → ClassId} (a_self a_p0 : Nat → Nat) (n_self : Nat) (n_p0 : Nat) (X : gx p s m args c b_Sy_firstDifference 4 R_Sy w_Sy_firstDifference D classes (tyK K) A) (hr : meth.sig.returnType = some .int) (hlk : meth.locks = false) (N : Nat) (r : Int32) (s_self s_p0 : Nat → Nat → Int32) (v2 : Int32) (h : f_Sy_firstDifference_40 N n_self n_p0 s_self s_p0 v2 = some r) : Gd p l e rm_Sy_firstDifference s m args below meth c 0 0 (MQ below (sq D classes (tyK K) (some (.int r)) [wd_Sy K a_self n_self s_self, wd_Sy K a_p0 n_p0 s_p0] A) args s 0 0 A) D classes A 4 40 [wd_Sy K a_self n_self s_self, wd_Sy K a_p0 n_p0 s_p0] [(2, .int v2)] [] := by
  unfold f_Sy_firstDifference_40 at h
  refine gd_iload_n X d_Sy_firstDifference_40 0 rfl ?_
  cases h
  exact gd_iret X hr hlk d_Sy_firstDifference_41
def l_Sy_firstDifference_14 (N : Nat) (n_self : Nat) (n_p0 : Nat) (s_self s_p0 : Nat → Nat → Int32) (v2 : Int32) (kx32 : Int32 → Option ((Int32))) (kx40 : Option ((Int32))) : Nat → Int32 → Option ((Int32))
  | 0, _ => none
  | n + 1, v3 => f_Sy_firstDifference_14 N n_self n_p0 (l_Sy_firstDifference_14 N n_self n_p0 s_self s_p0 v2 kx32 kx40 n) kx32 kx40 s_self s_p0 v2 v3
set_option maxHeartbeats 4000000 in
set_option maxRecDepth 100000 in
theorem tl_Sy_firstDifference_14 {p : Program} {l : Launch} {e : Env} {s : State} {m : MethodId} {args : Array Value} {below : List Frame} {meth : Method} {c : Code} {A : Nat → Prop} {D : va_G} {K : Nat → ClassId} (a_self a_p0 : Nat → Nat) (n_self : Nat) (n_p0 : Nat) (X : gx p s m args c b_Sy_firstDifference 4 R_Sy w_Sy_firstDifference D classes (tyK K) A) (hr : meth.sig.returnType = some .int) (hlk : meth.locks = false) (N : Nat) (r : Int32) (s_self s_p0 : Nat → Nat → Int32) (v2 : Int32) (kx32 : Int32 → Option ((Int32))) (hkx32 : ∀ (v3 : Int32), kx32 v3 = some r → Gd p l e rm_Sy_firstDifference s m args below meth c 0 0 (MQ below (sq D classes (tyK K) (some (.int r)) [wd_Sy K a_self n_self s_self, wd_Sy K a_p0 n_p0 s_p0] A) args s 0 0 A) D classes A 4 32 [wd_Sy K a_self n_self s_self, wd_Sy K a_p0 n_p0 s_p0] [(3, .int v3)] []) (kx40 : Option ((Int32))) (hkx40 : kx40 = some r → Gd p l e rm_Sy_firstDifference s m args below meth c 0 0 (MQ below (sq D classes (tyK K) (some (.int r)) [wd_Sy K a_self n_self s_self, wd_Sy K a_p0 n_p0 s_p0] A) args s 0 0 A) D classes A 4 40 [wd_Sy K a_self n_self s_self, wd_Sy K a_p0 n_p0 s_p0] [(2, .int v2)] []) : ∀ (n : Nat) (v3 : Int32), l_Sy_firstDifference_14 N n_self n_p0 s_self s_p0 v2 kx32 kx40 n v3 = some r → Gd p l e rm_Sy_firstDifference s m args below meth c 0 0 (MQ below (sq D classes (tyK K) (some (.int r)) [wd_Sy K a_self n_self s_self, wd_Sy K a_p0 n_p0 s_p0] A) args s 0 0 A) D classes A 4 14 [wd_Sy K a_self n_self s_self, wd_Sy K a_p0 n_p0 s_p0] [(0, .ref (a_self 0)), (1, .ref (a_p0 0)), (2, .int v2), (3, .int v3)] [] := by
  intro n
  induction n with
  | zero => intro v3 h; have h : (none : Option ((Int32))) = some _ := h; cases h
  | succ n ih =>
    intro v3 h
    exact t_Sy_firstDifference_14 a_self a_p0 n_self n_p0 X hr hlk N r s_self s_p0 v2 v3 (l_Sy_firstDifference_14 N n_self n_p0 s_self s_p0 v2 kx32 kx40 n) ih kx32 hkx32 kx40 hkx40 h
def f_Sy_firstDifference_0 (N : Nat) (n_self : Nat) (n_p0 : Nat) (s_self s_p0 : Nat → Nat → Int32) : Option ((Int32)) :=
  nm (if (s_p0 0 1) < (s_self 0 1) then (s_p0 0 1) else (s_self 0 1)) fun v_1 =>
  l_Sy_firstDifference_14 N n_self n_p0 s_self s_p0 v_1 (fun v3 => f_Sy_firstDifference_32 N n_self n_p0 s_self s_p0 v3) (f_Sy_firstDifference_40 N n_self n_p0 s_self s_p0 v_1) N 0
set_option maxHeartbeats 4000000 in
set_option maxRecDepth 100000 in
theorem t_Sy_firstDifference_0 {p : Program} {l : Launch} {e : Env} {s : State} {m : MethodId} {args : Array Value} {below : List Frame} {meth : Method} {c : Code} {A : Nat → Prop} {D : va_G} {K : Nat → ClassId} (a_self a_p0 : Nat → Nat) (n_self : Nat) (n_p0 : Nat) (X : gx p s m args c b_Sy_firstDifference 4 R_Sy w_Sy_firstDifference D classes (tyK K) A) (hr : meth.sig.returnType = some .int) (hlk : meth.locks = false) (N : Nat) (r : Int32) (s_self s_p0 : Nat → Nat → Int32) (h : f_Sy_firstDifference_0 N n_self n_p0 s_self s_p0 = some r) : Gd p l e rm_Sy_firstDifference s m args below meth c 0 0 (MQ below (sq D classes (tyK K) (some (.int r)) [wd_Sy K a_self n_self s_self, wd_Sy K a_p0 n_p0 s_p0] A) args s 0 0 A) D classes A 4 0 [wd_Sy K a_self n_self s_self, wd_Sy K a_p0 n_p0 s_p0] [(0, .ref (a_self 0)), (1, .ref (a_p0 0))] [] := by
  unfold f_Sy_firstDifference_0 at h
  refine gd_aload_n X d_Sy_firstDifference_0 0 rfl ?_
  refine gd_get X (ci := 0) (C := R_Sy) (T := F_Sy) (N := 2) (v := .int (s_self 0 1)) 0 0 rfl rfl rfl (in_Sy _) 1 (by decide) (List.mem_cons_of_mem _ fl_Sy_21) rfl rfl d_Sy_firstDifference_1 ?_
  refine gd_aload_n X d_Sy_firstDifference_4 1 rfl ?_
  refine gd_get X (ci := 0) (C := R_Sy) (T := F_Sy) (N := 2) (v := .int (s_p0 0 1)) 1 0 rfl rfl rfl (in_Sy _) 1 (by decide) (List.mem_cons_of_mem _ fl_Sy_21) rfl rfl d_Sy_firstDifference_5 ?_
  obtain ⟨v_1, ev_1, h⟩ := nm_e' h
  refine gd_mmin X (List.mem_cons_of_mem _ ml_Sy_37) (List.mem_cons_of_mem _ mw_min_1) (List.mem_cons_of_mem _ mw_min_2) (List.mem_cons_of_mem _ mw_min_3) (Nat.le_of_ble_eq_true rfl) (Nat.le_of_ble_eq_true rfl) ⟨Nat.zero_le _, Nat.zero_le _⟩ d_Sy_firstDifference_8 ?_
  refine gd_topi ev_1 ?_
  refine gd_istore_n X (lv' := [(2, .int v_1), (0, .ref (a_self 0)), (1, .ref (a_p0 0))]) d_Sy_firstDifference_11 rfl (by decide) rfl ?_
  refine gd_iconst X (v := 0) d_Sy_firstDifference_12 (by decide) ?_
  refine gd_istore_n X (lv' := [(3, .int 0), (2, .int v_1), (0, .ref (a_self 0)), (1, .ref (a_p0 0))]) d_Sy_firstDifference_13 rfl (by decide) rfl ?_
  refine gd_loc (lv' := [(0, .ref (a_self 0)), (1, .ref (a_p0 0)), (2, .int v_1), (3, .int 0)]) [2, 3, 1, 0] rfl ?_
  exact tl_Sy_firstDifference_14 a_self a_p0 n_self n_p0 X hr hlk N r s_self s_p0 v_1 (fun v3 => f_Sy_firstDifference_32 N n_self n_p0 s_self s_p0 v3) (fun v3 h => t_Sy_firstDifference_32 a_self a_p0 n_self n_p0 X hr hlk N r s_self s_p0 v3 h) (f_Sy_firstDifference_40 N n_self n_p0 s_self s_p0 v_1) (fun h => t_Sy_firstDifference_40 a_self a_p0 n_self n_p0 X hr hlk N r s_self s_p0 v_1 h) N 0 h
def m_Sy_firstDifference (N : Nat) (n_self : Nat) (n_p0 : Nat) (s_self s_p0 : Nat → Nat → Int32) : Option ((Int32)) := f_Sy_firstDifference_0 N n_self n_p0 s_self s_p0
set_option maxHeartbeats 4000000 in
set_option maxRecDepth 100000 in
theorem c_Sy_firstDifference (l : Launch) (D : va_G) (K : Nat → ClassId) (a_self a_p0 : Nat → Nat) (n_self : Nat) (n_p0 : Nat) (N : Nat) (s_self s_p0 : Nat → Nat → Int32) (r : Int32) (h : m_Sy_firstDifference N n_self n_p0 s_self s_p0 = some r) : SMet l y_Sy_firstDifference w_Sy_firstDifference rm_Sy_firstDifference D classes (tyK K) [.ref (a_self 0), .ref (a_p0 0)] (some (.int r)) [wd_Sy K a_self n_self s_self, wd_Sy K a_p0 n_p0 s_p0] [wd_Sy K a_self n_self s_self, wd_Sy K a_p0 n_p0 s_p0] := by
  refine sm_of R_Sy (by decide) rfl rfl (Nat.le_of_ble_eq_true rfl) ?_
  intro p e s m below meth c A X hr hlk
  refine gd_loc (lv' := [(0, .ref (a_self 0)), (1, .ref (a_p0 0))]) [0, 1] rfl ?_
  exact t_Sy_firstDifference_0 a_self a_p0 n_self n_p0 X hr hlk N r s_self s_p0 h
abbrev b_Sy_isSameAs : ByteArray := prog_6_method_6_code
def y_Sy_isSameAs : MethodName := ⟨R_Sy, "isSameAs", "(LRuleTrees$Symbols;)Z"⟩
def w_Sy_isSameAs : List Cond := .code y_Sy_isSameAs b_Sy_isSameAs 2 (some .boolean) :: TB
theorem k_Sy_isSameAs : Cond.code y_Sy_isSameAs b_Sy_isSameAs 2 (some .boolean) ∈ TB := tb_of 703 (by decide +kernel) (by decide +kernel)
theorem d_Sy_isSameAs_0 : decode b_Sy_isSameAs 0 = .ok (.aload_n 0, 1) := by decide +kernel
theorem d_Sy_isSameAs_1 : decode b_Sy_isSameAs 1 = .ok (.getfield 21, 3) := by decide +kernel
theorem d_Sy_isSameAs_4 : decode b_Sy_isSameAs 4 = .ok (.aload_n 1, 1) := by decide +kernel
theorem d_Sy_isSameAs_5 : decode b_Sy_isSameAs 5 = .ok (.getfield 21, 3) := by decide +kernel
theorem d_Sy_isSameAs_8 : decode b_Sy_isSameAs 8 = .ok (.if_icmp .ne 19, 3) := by decide +kernel
theorem d_Sy_isSameAs_11 : decode b_Sy_isSameAs 11 = .ok (.aload_n 0, 1) := by decide +kernel
theorem d_Sy_isSameAs_12 : decode b_Sy_isSameAs 12 = .ok (.aload_n 1, 1) := by decide +kernel
theorem d_Sy_isSameAs_13 : decode b_Sy_isSameAs 13 = .ok (.invokevirtual 33, 3) := by decide +kernel
theorem d_Sy_isSameAs_16 : decode b_Sy_isSameAs 16 = .ok (.aload_n 0, 1) := by decide +kernel
theorem d_Sy_isSameAs_17 : decode b_Sy_isSameAs 17 = .ok (.getfield 21, 3) := by decide +kernel
theorem d_Sy_isSameAs_20 : decode b_Sy_isSameAs 20 = .ok (.if_icmp .ne 7, 3) := by decide +kernel
theorem d_Sy_isSameAs_23 : decode b_Sy_isSameAs 23 = .ok (.iconst 1, 1) := by decide +kernel
theorem d_Sy_isSameAs_24 : decode b_Sy_isSameAs 24 = .ok (.goto 4, 3) := by decide +kernel
theorem d_Sy_isSameAs_27 : decode b_Sy_isSameAs 27 = .ok (.iconst 0, 1) := by decide +kernel
theorem d_Sy_isSameAs_28 : decode b_Sy_isSameAs 28 = .ok (.ireturn, 1) := by decide +kernel
theorem ml_Sy_33 : Cond.methodLink R_Sy 33 ⟨"RuleTrees$Symbols", "firstDifference", "(LRuleTrees$Symbols;)I"⟩ ∈ TB := tb_of 704 (by decide +kernel) (by decide +kernel)
theorem u_Sy_firstDifference : (Cond.instanceMethod y_Sy_firstDifference ∈ TB ∧ Cond.selects R_Sy y_Sy_firstDifference y_Sy_firstDifference ∈ TB) ∧ Cond.initialized R_Sy ∈ TB ∧ Cond.code y_Sy_firstDifference b_Sy_firstDifference 4 (some .int) ∈ TB := ⟨⟨(tb_of 706 (by decide +kernel) (by decide +kernel)), (tb_of 34 (by decide +kernel) (by decide +kernel))⟩, (tb_of 67 (by decide +kernel) (by decide +kernel)), k_Sy_firstDifference⟩
abbrev rm_Sy_isSameAs : Room := { frames := 2, cells := 0, slots := 0, locals := 44 }
def f_Sy_isSameAs_0 (N : Nat) (n_self : Nat) (n_p0 : Nat) (s_self s_p0 : Nat → Nat → Int32) : Option ((Int32)) :=
  if (s_self 0 1) = (s_p0 0 1) then
    bd1 (m_Sy_firstDifference N n_self n_p0 s_self s_p0) fun r_2 =>
    if r_2 = (s_self 0 1) then
      some (1)
    else
      some (0)
  else
    some (0)
set_option maxHeartbeats 4000000 in
set_option maxRecDepth 100000 in
theorem t_Sy_isSameAs_0 {p : Program} {l : Launch} {e : Env} {s : State} {m : MethodId} {args : Array Value} {below : List Frame} {meth : Method} {c : Code} {A : Nat → Prop} {D : va_G} {K : Nat → ClassId} (a_self a_p0 : Nat → Nat) (n_self : Nat) (n_p0 : Nat) (X : gx p s m args c b_Sy_isSameAs 2 R_Sy w_Sy_isSameAs D classes (tyK K) A) (hr : meth.sig.returnType = some .boolean) (hlk : meth.locks = false) (N : Nat) (r : Int32) (s_self s_p0 : Nat → Nat → Int32) (h : f_Sy_isSameAs_0 N n_self n_p0 s_self s_p0 = some r) : Gd p l e rm_Sy_isSameAs s m args below meth c 0 0 (MQ below (sq D classes (tyK K) (some (.int r)) [wd_Sy K a_self n_self s_self, wd_Sy K a_p0 n_p0 s_p0] A) args s 0 0 A) D classes A 2 0 [wd_Sy K a_self n_self s_self, wd_Sy K a_p0 n_p0 s_p0] [(0, .ref (a_self 0)), (1, .ref (a_p0 0))] [] := by
  unfold f_Sy_isSameAs_0 at h
  refine gd_aload_n X d_Sy_isSameAs_0 0 rfl ?_
  refine gd_get X (ci := 0) (C := R_Sy) (T := F_Sy) (N := 2) (v := .int (s_self 0 1)) 0 0 rfl rfl rfl (in_Sy _) 1 (by decide) (List.mem_cons_of_mem _ fl_Sy_21) rfl rfl d_Sy_isSameAs_1 ?_
  refine gd_aload_n X d_Sy_isSameAs_4 1 rfl ?_
  refine gd_get X (ci := 0) (C := R_Sy) (T := F_Sy) (N := 2) (v := .int (s_p0 0 1)) 1 0 rfl rfl rfl (in_Sy _) 1 (by decide) (List.mem_cons_of_mem _ fl_Sy_21) rfl rfl d_Sy_isSameAs_5 ?_
  refine gd_icmp_ne X (tgt := 27) d_Sy_isSameAs_8 (by decide) (fun c_1 => ?_) (fun c_1 => ?_)
  · replace h := it_n c_1 h
    refine gd_iconst X (v := 0) d_Sy_isSameAs_27 (by decide) ?_
    cases h
    exact gd_zret X hr hlk (by decide) d_Sy_isSameAs_28
  · replace h := it_p c_1 h
    refine gd_aload_n X d_Sy_isSameAs_11 0 rfl ?_
    refine gd_aload_n X d_Sy_isSameAs_12 1 rfl ?_
    obtain ⟨r_2, hc_3, h⟩ := bd1_e h
    refine gd_fI X (gd_V X (As := [.ref (a_p0 0)]) (rest := []) (c_Sy_firstDifference l D K a_self a_p0 n_self n_p0 N s_self s_p0 r_2 hc_3) 1 (gi_V ml_Sy_33 u_Sy_firstDifference) rfl ⟨rfl, rfl⟩ (by decide +kernel) ⟨by decide, by decide⟩ (ci := 0) rfl rfl rfl rfl rfl rfl (Nat.le_of_ble_eq_true rfl) ⟨Nat.zero_le _, Nat.zero_le _⟩ d_Sy_isSameAs_13) ?_
    refine gd_aload_n X d_Sy_isSameAs_16 0 rfl ?_
    refine gd_get X (ci := 0) (C := R_Sy) (T := F_Sy) (N := 2) (v := .int (s_self 0 1)) 0 0 rfl rfl rfl (in_Sy _) 1 (by decide) (List.mem_cons_of_mem _ fl_Sy_21) rfl rfl d_Sy_isSameAs_17 ?_
    refine gd_icmp_ne X (tgt := 27) d_Sy_isSameAs_20 (by decide) (fun c_4 => ?_) (fun c_4 => ?_)
    · replace h := it_n c_4 h
      refine gd_iconst X (v := 0) d_Sy_isSameAs_27 (by decide) ?_
      cases h
      exact gd_zret X hr hlk (by decide) d_Sy_isSameAs_28
    · replace h := it_p c_4 h
      refine gd_iconst X (v := 1) d_Sy_isSameAs_23 (by decide) ?_
      refine gd_goto X (tgt := 28) d_Sy_isSameAs_24 (by decide) ?_
      cases h
      exact gd_zret X hr hlk (by decide) d_Sy_isSameAs_28
def m_Sy_isSameAs (N : Nat) (n_self : Nat) (n_p0 : Nat) (s_self s_p0 : Nat → Nat → Int32) : Option ((Int32)) := f_Sy_isSameAs_0 N n_self n_p0 s_self s_p0
set_option maxHeartbeats 4000000 in
set_option maxRecDepth 100000 in
theorem c_Sy_isSameAs (l : Launch) (D : va_G) (K : Nat → ClassId) (a_self a_p0 : Nat → Nat) (n_self : Nat) (n_p0 : Nat) (N : Nat) (s_self s_p0 : Nat → Nat → Int32) (r : Int32) (h : m_Sy_isSameAs N n_self n_p0 s_self s_p0 = some r) : SMet l y_Sy_isSameAs w_Sy_isSameAs rm_Sy_isSameAs D classes (tyK K) [.ref (a_self 0), .ref (a_p0 0)] (some (.int r)) [wd_Sy K a_self n_self s_self, wd_Sy K a_p0 n_p0 s_p0] [wd_Sy K a_self n_self s_self, wd_Sy K a_p0 n_p0 s_p0] := by
  refine sm_of R_Sy (by decide) rfl rfl (Nat.le_of_ble_eq_true rfl) ?_
  intro p e s m below meth c A X hr hlk
  refine gd_loc (lv' := [(0, .ref (a_self 0)), (1, .ref (a_p0 0))]) [0, 1] rfl ?_
  exact t_Sy_isSameAs_0 a_self a_p0 n_self n_p0 X hr hlk N r s_self s_p0 h
