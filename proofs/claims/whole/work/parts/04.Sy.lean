abbrev b_Sy_at : ByteArray := prog_6_method_2_code
def y_Sy_at : MethodName := ⟨R_Sy, "at", "(I)I"⟩
def w_Sy_at : List Cond := .code y_Sy_at b_Sy_at 2 (some .int) :: TB
theorem k_Sy_at : Cond.code y_Sy_at b_Sy_at 2 (some .int) ∈ TB := tb_of 414 (by decide +kernel) (by decide +kernel)
theorem d_Sy_at_0 : decode b_Sy_at 0 = .ok (.iload_n 1, 1) := by decide +kernel
theorem d_Sy_at_1 : decode b_Sy_at 1 = .ok (.ifCond .lt 29, 3) := by decide +kernel
theorem d_Sy_at_4 : decode b_Sy_at 4 = .ok (.iload_n 1, 1) := by decide +kernel
theorem d_Sy_at_5 : decode b_Sy_at 5 = .ok (.aload_n 0, 1) := by decide +kernel
theorem d_Sy_at_6 : decode b_Sy_at 6 = .ok (.getfield 21, 3) := by decide +kernel
theorem d_Sy_at_9 : decode b_Sy_at 9 = .ok (.if_icmp .ge 21, 3) := by decide +kernel
theorem d_Sy_at_12 : decode b_Sy_at 12 = .ok (.iload_n 1, 1) := by decide +kernel
theorem d_Sy_at_13 : decode b_Sy_at 13 = .ok (.aload_n 0, 1) := by decide +kernel
theorem d_Sy_at_14 : decode b_Sy_at 14 = .ok (.getfield 15, 3) := by decide +kernel
theorem d_Sy_at_17 : decode b_Sy_at 17 = .ok (.arraylength, 1) := by decide +kernel
theorem d_Sy_at_18 : decode b_Sy_at 18 = .ok (.if_icmp .ge 12, 3) := by decide +kernel
theorem d_Sy_at_21 : decode b_Sy_at 21 = .ok (.aload_n 0, 1) := by decide +kernel
theorem d_Sy_at_22 : decode b_Sy_at 22 = .ok (.getfield 15, 3) := by decide +kernel
theorem d_Sy_at_25 : decode b_Sy_at 25 = .ok (.iload_n 1, 1) := by decide +kernel
theorem d_Sy_at_26 : decode b_Sy_at 26 = .ok (.iaload, 1) := by decide +kernel
theorem d_Sy_at_27 : decode b_Sy_at 27 = .ok (.goto 6, 3) := by decide +kernel
theorem d_Sy_at_30 : decode b_Sy_at 30 = .ok (.sipush (-1000), 3) := by decide +kernel
theorem d_Sy_at_33 : decode b_Sy_at 33 = .ok (.ireturn, 1) := by decide +kernel
theorem fl_Sy_21 : Cond.fieldLink R_Sy 21 "RuleTrees$Symbols" "length" "I" ∈ TB := tb_of 213 (by decide +kernel) (by decide +kernel)
theorem fl_Sy_15 : Cond.fieldLink R_Sy 15 "RuleTrees$Symbols" "items" "[I" ∈ TB := tb_of 212 (by decide +kernel) (by decide +kernel)
abbrev rm_Sy_at : Room := { frames := 0, cells := 0, slots := 0, locals := 0 }
def f_Sy_at_0 (n_self : Nat) (s_self : Nat → Nat → Int32) (v1 : Int32) : Option ((Int32)) :=
  if v1 < 0 then
    some ((-1000))
  else
    if (s_self 0 1) ≤ v1 then
      some ((-1000))
    else
      if (nI n_self) ≤ v1 then
        some ((-1000))
      else
        ck v1 n_self <|
        some (s_self 1 (Int32.toNatClampNeg v1))
set_option maxHeartbeats 4000000 in
set_option maxRecDepth 100000 in
theorem t_Sy_at_0 {p : Program} {l : Launch} {e : Env} {s : State} {m : MethodId} {args : Array Value} {below : List Frame} {meth : Method} {c : Code} {A : Nat → Prop} {D : va_G} {K : Nat → ClassId} (a_self : Nat → Nat) (n_self : Nat) (X : gx p s m args c b_Sy_at 2 R_Sy w_Sy_at D classes (tyK K) A) (hr : meth.sig.returnType = some .int) (hlk : meth.locks = false) (r : Int32) (s_self : Nat → Nat → Int32) (v1 : Int32) (h : f_Sy_at_0 n_self s_self v1 = some r) : Gd p l e rm_Sy_at s m args below meth c 0 0 (MQ below (sq D classes (tyK K) (some (.int r)) (wd_Sy K a_self n_self s_self) A) args s 0 0 A) D classes A 2 0 (wd_Sy K a_self n_self s_self) [(0, .ref (a_self 0)), (1, .int v1)] [] := by
  unfold f_Sy_at_0 at h
  refine gd_iload_n X d_Sy_at_0 1 rfl ?_
  refine gd_if_lt X (tgt := 30) d_Sy_at_1 (by decide) (fun c_1 => ?_) (fun c_1 => ?_)
  · replace h := it_p c_1 h
    refine gd_sipush X (v := (-1000)) d_Sy_at_30 (by decide) ?_
    cases h
    exact gd_iret X hr hlk d_Sy_at_33
  · replace h := it_n c_1 h
    refine gd_iload_n X d_Sy_at_4 1 rfl ?_
    refine gd_aload_n X d_Sy_at_5 0 rfl ?_
    refine gd_get X (ci := 0) (C := R_Sy) (T := F_Sy) (N := 2) (v := .int (s_self 0 1)) 0 rfl rfl (in_Sy _) 1 (by decide) (List.mem_cons_of_mem _ fl_Sy_21) rfl rfl d_Sy_at_6 ?_
    refine gd_icmp_ge X (tgt := 30) d_Sy_at_9 (by decide) (fun c_2 => ?_) (fun c_2 => ?_)
    · replace h := it_p c_2 h
      refine gd_sipush X (v := (-1000)) d_Sy_at_30 (by decide) ?_
      cases h
      exact gd_iret X hr hlk d_Sy_at_33
    · replace h := it_n c_2 h
      refine gd_iload_n X d_Sy_at_12 1 rfl ?_
      refine gd_aload_n X d_Sy_at_13 0 rfl ?_
      refine gd_get X (ci := 0) (C := R_Sy) (T := F_Sy) (N := 2) (v := .ref (a_self 1)) 0 rfl rfl (in_Sy _) 0 (by decide) (List.mem_cons_of_mem _ fl_Sy_15) rfl rfl d_Sy_at_14 ?_
      refine gd_alen X 1 0 rfl rfl (v := nI n_self) rfl d_Sy_at_17 ?_
      refine gd_icmp_ge X (tgt := 30) d_Sy_at_18 (by decide) (fun c_3 => ?_) (fun c_3 => ?_)
      · replace h := it_p c_3 h
        refine gd_sipush X (v := (-1000)) d_Sy_at_30 (by decide) ?_
        cases h
        exact gd_iret X hr hlk d_Sy_at_33
      · replace h := it_n c_3 h
        refine gd_aload_n X d_Sy_at_21 0 rfl ?_
        refine gd_get X (ci := 0) (C := R_Sy) (T := F_Sy) (N := 2) (v := .ref (a_self 1)) 0 rfl rfl (in_Sy _) 0 (by decide) (List.mem_cons_of_mem _ fl_Sy_15) rfl rfl d_Sy_at_22 ?_
        refine gd_iload_n X d_Sy_at_25 1 rfl ?_
        obtain ⟨hi_4, h⟩ := ck_e h
        refine gd_iald X 1 0 rfl rfl hi_4 d_Sy_at_26 ?_
        refine gd_goto X (tgt := 33) d_Sy_at_27 (by decide) ?_
        cases h
        exact gd_iret X hr hlk d_Sy_at_33
def m_Sy_at (n_self : Nat) (s_self : Nat → Nat → Int32) (v1 : Int32) : Option ((Int32)) := f_Sy_at_0 n_self s_self v1
set_option maxHeartbeats 4000000 in
set_option maxRecDepth 100000 in
theorem c_Sy_at (l : Launch) (D : va_G) (K : Nat → ClassId) (a_self : Nat → Nat) (n_self : Nat) (s_self : Nat → Nat → Int32) (v1 : Int32) (r : Int32) (h : m_Sy_at n_self s_self v1 = some r) : SMet l y_Sy_at w_Sy_at rm_Sy_at D classes (tyK K) [.ref (a_self 0), .int v1] (some (.int r)) (wd_Sy K a_self n_self s_self) (wd_Sy K a_self n_self s_self) := by
  refine sm_of R_Sy (by decide) rfl rfl (Nat.le_of_ble_eq_true rfl) ?_
  intro p e s m below meth c A X hr hlk
  refine gd_loc (lv' := [(0, .ref (a_self 0)), (1, .int v1)]) [0, 1] rfl ?_
  exact t_Sy_at_0 a_self n_self X hr hlk r s_self v1 h
abbrev b_Sy_append : ByteArray := prog_6_method_3_code
def y_Sy_append : MethodName := ⟨R_Sy, "append", "(I)Z"⟩
def w_Sy_append : List Cond := .code y_Sy_append b_Sy_append 2 (some .boolean) :: TB
theorem k_Sy_append : Cond.code y_Sy_append b_Sy_append 2 (some .boolean) ∈ TB := tb_of 353 (by decide +kernel) (by decide +kernel)
theorem d_Sy_append_0 : decode b_Sy_append 0 = .ok (.aload_n 0, 1) := by decide +kernel
theorem d_Sy_append_1 : decode b_Sy_append 1 = .ok (.getfield 21, 3) := by decide +kernel
theorem d_Sy_append_4 : decode b_Sy_append 4 = .ok (.ifCond .lt 15, 3) := by decide +kernel
theorem d_Sy_append_7 : decode b_Sy_append 7 = .ok (.aload_n 0, 1) := by decide +kernel
theorem d_Sy_append_8 : decode b_Sy_append 8 = .ok (.getfield 21, 3) := by decide +kernel
theorem d_Sy_append_11 : decode b_Sy_append 11 = .ok (.aload_n 0, 1) := by decide +kernel
theorem d_Sy_append_12 : decode b_Sy_append 12 = .ok (.getfield 15, 3) := by decide +kernel
theorem d_Sy_append_15 : decode b_Sy_append 15 = .ok (.arraylength, 1) := by decide +kernel
theorem d_Sy_append_16 : decode b_Sy_append 16 = .ok (.if_icmp .lt 5, 3) := by decide +kernel
theorem d_Sy_append_19 : decode b_Sy_append 19 = .ok (.iconst 0, 1) := by decide +kernel
theorem d_Sy_append_20 : decode b_Sy_append 20 = .ok (.ireturn, 1) := by decide +kernel
theorem d_Sy_append_21 : decode b_Sy_append 21 = .ok (.aload_n 0, 1) := by decide +kernel
theorem d_Sy_append_22 : decode b_Sy_append 22 = .ok (.getfield 15, 3) := by decide +kernel
theorem d_Sy_append_25 : decode b_Sy_append 25 = .ok (.aload_n 0, 1) := by decide +kernel
theorem d_Sy_append_26 : decode b_Sy_append 26 = .ok (.getfield 21, 3) := by decide +kernel
theorem d_Sy_append_29 : decode b_Sy_append 29 = .ok (.iload_n 1, 1) := by decide +kernel
theorem d_Sy_append_30 : decode b_Sy_append 30 = .ok (.iastore, 1) := by decide +kernel
theorem d_Sy_append_31 : decode b_Sy_append 31 = .ok (.aload_n 0, 1) := by decide +kernel
theorem d_Sy_append_32 : decode b_Sy_append 32 = .ok (.dup, 1) := by decide +kernel
theorem d_Sy_append_33 : decode b_Sy_append 33 = .ok (.getfield 21, 3) := by decide +kernel
theorem d_Sy_append_36 : decode b_Sy_append 36 = .ok (.iconst 1, 1) := by decide +kernel
theorem d_Sy_append_37 : decode b_Sy_append 37 = .ok (.iadd, 1) := by decide +kernel
theorem d_Sy_append_38 : decode b_Sy_append 38 = .ok (.putfield 21, 3) := by decide +kernel
theorem d_Sy_append_41 : decode b_Sy_append 41 = .ok (.iconst 1, 1) := by decide +kernel
theorem d_Sy_append_42 : decode b_Sy_append 42 = .ok (.ireturn, 1) := by decide +kernel
abbrev rm_Sy_append : Room := { frames := 0, cells := 0, slots := 0, locals := 0 }
def f_Sy_append_0 (n_self : Nat) (s_self : Nat → Nat → Int32) (v1 : Int32) : Option ((Int32) × (Nat → Nat → Int32)) :=
  if (s_self 0 1) < 0 then
    some ((0), s_self)
  else
    if (s_self 0 1) < (nI n_self) then
      ck (s_self 0 1) n_self <| nm (st2 s_self 1 (Int32.toNatClampNeg (s_self 0 1)) v1) fun s_self_4 =>
      nm (st2 s_self_4 0 1 ((s_self_4 0 1) + 1)) fun s_self_5 =>
      some ((1), s_self_5)
    else
      some ((0), s_self)
set_option maxHeartbeats 4000000 in
set_option maxRecDepth 100000 in
theorem t_Sy_append_0 {p : Program} {l : Launch} {e : Env} {s : State} {m : MethodId} {args : Array Value} {below : List Frame} {meth : Method} {c : Code} {A : Nat → Prop} {D : va_G} {K : Nat → ClassId} (a_self : Nat → Nat) (n_self : Nat) (X : gx p s m args c b_Sy_append 2 R_Sy w_Sy_append D classes (tyK K) A) (hr : meth.sig.returnType = some .boolean) (hlk : meth.locks = false) (r : Int32) (f_self : Nat → Nat → Int32) (s_self : Nat → Nat → Int32) (v1 : Int32) (h : f_Sy_append_0 n_self s_self v1 = some (r, f_self)) : Gd p l e rm_Sy_append s m args below meth c 0 0 (MQ below (sq D classes (tyK K) (some (.int r)) (wd_Sy K a_self n_self f_self) A) args s 0 0 A) D classes A 2 0 (wd_Sy K a_self n_self s_self) [(0, .ref (a_self 0)), (1, .int v1)] [] := by
  unfold f_Sy_append_0 at h
  refine gd_aload_n X d_Sy_append_0 0 rfl ?_
  refine gd_get X (ci := 0) (C := R_Sy) (T := F_Sy) (N := 2) (v := .int (s_self 0 1)) 0 rfl rfl (in_Sy _) 1 (by decide) (List.mem_cons_of_mem _ fl_Sy_21) rfl rfl d_Sy_append_1 ?_
  refine gd_if_lt X (tgt := 19) d_Sy_append_4 (by decide) (fun c_1 => ?_) (fun c_1 => ?_)
  · replace h := it_p c_1 h
    refine gd_iconst X (v := 0) d_Sy_append_19 (by decide) ?_
    cases h
    exact gd_zret X hr hlk (by decide) d_Sy_append_20
  · replace h := it_n c_1 h
    refine gd_aload_n X d_Sy_append_7 0 rfl ?_
    refine gd_get X (ci := 0) (C := R_Sy) (T := F_Sy) (N := 2) (v := .int (s_self 0 1)) 0 rfl rfl (in_Sy _) 1 (by decide) (List.mem_cons_of_mem _ fl_Sy_21) rfl rfl d_Sy_append_8 ?_
    refine gd_aload_n X d_Sy_append_11 0 rfl ?_
    refine gd_get X (ci := 0) (C := R_Sy) (T := F_Sy) (N := 2) (v := .ref (a_self 1)) 0 rfl rfl (in_Sy _) 0 (by decide) (List.mem_cons_of_mem _ fl_Sy_15) rfl rfl d_Sy_append_12 ?_
    refine gd_alen X 1 0 rfl rfl (v := nI n_self) rfl d_Sy_append_15 ?_
    refine gd_icmp_lt X (tgt := 21) d_Sy_append_16 (by decide) (fun c_2 => ?_) (fun c_2 => ?_)
    · replace h := it_p c_2 h
      refine gd_aload_n X d_Sy_append_21 0 rfl ?_
      refine gd_get X (ci := 0) (C := R_Sy) (T := F_Sy) (N := 2) (v := .ref (a_self 1)) 0 rfl rfl (in_Sy _) 0 (by decide) (List.mem_cons_of_mem _ fl_Sy_15) rfl rfl d_Sy_append_22 ?_
      refine gd_aload_n X d_Sy_append_25 0 rfl ?_
      refine gd_get X (ci := 0) (C := R_Sy) (T := F_Sy) (N := 2) (v := .int (s_self 0 1)) 0 rfl rfl (in_Sy _) 1 (by decide) (List.mem_cons_of_mem _ fl_Sy_21) rfl rfl d_Sy_append_26 ?_
      refine gd_iload_n X d_Sy_append_29 1 rfl ?_
      obtain ⟨hi_3, h⟩ := ck_e h
      obtain ⟨s_self_4, es_self_4, h⟩ := nm_e' h
      refine gd_iast X (w' := (wd_Sy K a_self n_self s_self_4)) 1 0 rfl rfl hi_3 d_Sy_append_30 (by rw [es_self_4]; rfl) ?_
      refine gd_aload_n X d_Sy_append_31 0 rfl ?_
      refine gd_dup X d_Sy_append_32 rfl ?_
      refine gd_get X (ci := 0) (C := R_Sy) (T := F_Sy) (N := 2) (v := .int (s_self_4 0 1)) 0 rfl rfl (in_Sy _) 1 (by decide) (List.mem_cons_of_mem _ fl_Sy_21) rfl rfl d_Sy_append_33 ?_
      refine gd_iconst X (v := 1) d_Sy_append_36 (by decide) ?_
      refine gd_iadd X d_Sy_append_37 ?_
      obtain ⟨s_self_5, es_self_5, h⟩ := nm_e' h
      refine gd_put X (ci := 0) (C := R_Sy) (T := F_Sy) (N := 2) (ty := .int) (w' := (wd_Sy K a_self n_self s_self_5)) 0 rfl rfl (in_Sy _) t_Sy t_Sy_ok n_Sy 1 (by decide) (List.mem_cons_of_mem _ fl_Sy_21) rfl rfl (by decide +kernel) rfl rfl (Nat.le_of_ble_eq_true rfl) d_Sy_append_38 (by rw [es_self_5]; rfl) ?_
      refine gd_iconst X (v := 1) d_Sy_append_41 (by decide) ?_
      cases h
      exact gd_zret X hr hlk (by decide) d_Sy_append_42
    · replace h := it_n c_2 h
      refine gd_iconst X (v := 0) d_Sy_append_19 (by decide) ?_
      cases h
      exact gd_zret X hr hlk (by decide) d_Sy_append_20
def m_Sy_append (n_self : Nat) (s_self : Nat → Nat → Int32) (v1 : Int32) : Option ((Int32) × (Nat → Nat → Int32)) := f_Sy_append_0 n_self s_self v1
set_option maxHeartbeats 4000000 in
set_option maxRecDepth 100000 in
theorem c_Sy_append (l : Launch) (D : va_G) (K : Nat → ClassId) (a_self : Nat → Nat) (n_self : Nat) (s_self : Nat → Nat → Int32) (v1 : Int32) (r : Int32) (f_self : Nat → Nat → Int32) (h : m_Sy_append n_self s_self v1 = some (r, f_self)) : SMet l y_Sy_append w_Sy_append rm_Sy_append D classes (tyK K) [.ref (a_self 0), .int v1] (some (.int r)) (wd_Sy K a_self n_self s_self) (wd_Sy K a_self n_self f_self) := by
  refine sm_of R_Sy (by decide) rfl rfl (Nat.le_of_ble_eq_true rfl) ?_
  intro p e s m below meth c A X hr hlk
  refine gd_loc (lv' := [(0, .ref (a_self 0)), (1, .int v1)]) [0, 1] rfl ?_
  exact t_Sy_append_0 a_self n_self X hr hlk r f_self s_self v1 h
abbrev b_Sy_empty : ByteArray := prog_6_method_4_code
def y_Sy_empty : MethodName := ⟨R_Sy, "empty", "()I"⟩
def w_Sy_empty : List Cond := .code y_Sy_empty b_Sy_empty 2 (some .int) :: TB
theorem k_Sy_empty : Cond.code y_Sy_empty b_Sy_empty 2 (some .int) ∈ TB := tb_of 361 (by decide +kernel) (by decide +kernel)
theorem d_Sy_empty_0 : decode b_Sy_empty 0 = .ok (.aload_n 0, 1) := by decide +kernel
theorem d_Sy_empty_1 : decode b_Sy_empty 1 = .ok (.getfield 21, 3) := by decide +kernel
theorem d_Sy_empty_4 : decode b_Sy_empty 4 = .ok (.istore_n 1, 1) := by decide +kernel
theorem d_Sy_empty_5 : decode b_Sy_empty 5 = .ok (.aload_n 0, 1) := by decide +kernel
theorem d_Sy_empty_6 : decode b_Sy_empty 6 = .ok (.iconst 0, 1) := by decide +kernel
theorem d_Sy_empty_7 : decode b_Sy_empty 7 = .ok (.putfield 21, 3) := by decide +kernel
theorem d_Sy_empty_10 : decode b_Sy_empty 10 = .ok (.iload_n 1, 1) := by decide +kernel
theorem d_Sy_empty_11 : decode b_Sy_empty 11 = .ok (.ireturn, 1) := by decide +kernel
abbrev rm_Sy_empty : Room := { frames := 0, cells := 0, slots := 0, locals := 0 }
def f_Sy_empty_0 (n_self : Nat) (s_self : Nat → Nat → Int32) : Option ((Int32) × (Nat → Nat → Int32)) :=
  nm (s_self 0 1) fun v1_1 =>
  nm (st2 s_self 0 1 0) fun s_self_2 =>
  some ((v1_1), s_self_2)
set_option maxHeartbeats 4000000 in
set_option maxRecDepth 100000 in
theorem t_Sy_empty_0 {p : Program} {l : Launch} {e : Env} {s : State} {m : MethodId} {args : Array Value} {below : List Frame} {meth : Method} {c : Code} {A : Nat → Prop} {D : va_G} {K : Nat → ClassId} (a_self : Nat → Nat) (n_self : Nat) (X : gx p s m args c b_Sy_empty 2 R_Sy w_Sy_empty D classes (tyK K) A) (hr : meth.sig.returnType = some .int) (hlk : meth.locks = false) (r : Int32) (f_self : Nat → Nat → Int32) (s_self : Nat → Nat → Int32) (h : f_Sy_empty_0 n_self s_self = some (r, f_self)) : Gd p l e rm_Sy_empty s m args below meth c 0 0 (MQ below (sq D classes (tyK K) (some (.int r)) (wd_Sy K a_self n_self f_self) A) args s 0 0 A) D classes A 2 0 (wd_Sy K a_self n_self s_self) [(0, .ref (a_self 0))] [] := by
  unfold f_Sy_empty_0 at h
  refine gd_aload_n X d_Sy_empty_0 0 rfl ?_
  refine gd_get X (ci := 0) (C := R_Sy) (T := F_Sy) (N := 2) (v := .int (s_self 0 1)) 0 rfl rfl (in_Sy _) 1 (by decide) (List.mem_cons_of_mem _ fl_Sy_21) rfl rfl d_Sy_empty_1 ?_
  obtain ⟨v1_1, ev1_1, h⟩ := nm_e' h
  refine gd_topi ev1_1 ?_
  refine gd_istore_n X (lv' := [(1, .int v1_1), (0, .ref (a_self 0))]) d_Sy_empty_4 rfl (by decide) rfl ?_
  refine gd_aload_n X d_Sy_empty_5 1 rfl ?_
  refine gd_iconst X (v := 0) d_Sy_empty_6 (by decide) ?_
  obtain ⟨s_self_2, es_self_2, h⟩ := nm_e' h
  refine gd_put X (ci := 0) (C := R_Sy) (T := F_Sy) (N := 2) (ty := .int) (w' := (wd_Sy K a_self n_self s_self_2)) 0 rfl rfl (in_Sy _) t_Sy t_Sy_ok n_Sy 1 (by decide) (List.mem_cons_of_mem _ fl_Sy_21) rfl rfl (by decide +kernel) rfl rfl (Nat.le_of_ble_eq_true rfl) d_Sy_empty_7 (by rw [es_self_2]; rfl) ?_
  refine gd_iload_n X d_Sy_empty_10 0 rfl ?_
  cases h
  exact gd_iret X hr hlk d_Sy_empty_11
def m_Sy_empty (n_self : Nat) (s_self : Nat → Nat → Int32) : Option ((Int32) × (Nat → Nat → Int32)) := f_Sy_empty_0 n_self s_self
set_option maxHeartbeats 4000000 in
set_option maxRecDepth 100000 in
theorem c_Sy_empty (l : Launch) (D : va_G) (K : Nat → ClassId) (a_self : Nat → Nat) (n_self : Nat) (s_self : Nat → Nat → Int32) (r : Int32) (f_self : Nat → Nat → Int32) (h : m_Sy_empty n_self s_self = some (r, f_self)) : SMet l y_Sy_empty w_Sy_empty rm_Sy_empty D classes (tyK K) [.ref (a_self 0)] (some (.int r)) (wd_Sy K a_self n_self s_self) (wd_Sy K a_self n_self f_self) := by
  refine sm_of R_Sy (by decide) rfl rfl (Nat.le_of_ble_eq_true rfl) ?_
  intro p e s m below meth c A X hr hlk
  refine gd_loc (lv' := [(0, .ref (a_self 0))]) [0] rfl ?_
  exact t_Sy_empty_0 a_self n_self X hr hlk r f_self s_self h
abbrev b_Sy_copyOf : ByteArray := prog_6_method_5_code
def y_Sy_copyOf : MethodName := ⟨R_Sy, "copyOf", "(LRuleTrees$Symbols;)V"⟩
def w_Sy_copyOf : List Cond := .code y_Sy_copyOf b_Sy_copyOf 3 none :: TB
theorem k_Sy_copyOf : Cond.code y_Sy_copyOf b_Sy_copyOf 3 none ∈ TB := tb_of 639 (by decide +kernel) (by decide +kernel)
theorem d_Sy_copyOf_0 : decode b_Sy_copyOf 0 = .ok (.aload_n 0, 1) := by decide +kernel
theorem d_Sy_copyOf_1 : decode b_Sy_copyOf 1 = .ok (.iconst 0, 1) := by decide +kernel
theorem d_Sy_copyOf_2 : decode b_Sy_copyOf 2 = .ok (.putfield 21, 3) := by decide +kernel
theorem d_Sy_copyOf_5 : decode b_Sy_copyOf 5 = .ok (.iconst 0, 1) := by decide +kernel
theorem d_Sy_copyOf_6 : decode b_Sy_copyOf 6 = .ok (.istore_n 2, 1) := by decide +kernel
theorem d_Sy_copyOf_7 : decode b_Sy_copyOf 7 = .ok (.iload_n 2, 1) := by decide +kernel
theorem d_Sy_copyOf_8 : decode b_Sy_copyOf 8 = .ok (.aload_n 1, 1) := by decide +kernel
theorem d_Sy_copyOf_9 : decode b_Sy_copyOf 9 = .ok (.getfield 21, 3) := by decide +kernel
theorem d_Sy_copyOf_12 : decode b_Sy_copyOf 12 = .ok (.if_icmp .ge 19, 3) := by decide +kernel
theorem d_Sy_copyOf_15 : decode b_Sy_copyOf 15 = .ok (.aload_n 0, 1) := by decide +kernel
theorem d_Sy_copyOf_16 : decode b_Sy_copyOf 16 = .ok (.aload_n 1, 1) := by decide +kernel
theorem d_Sy_copyOf_17 : decode b_Sy_copyOf 17 = .ok (.iload_n 2, 1) := by decide +kernel
theorem d_Sy_copyOf_18 : decode b_Sy_copyOf 18 = .ok (.invokevirtual 25, 3) := by decide +kernel
theorem d_Sy_copyOf_21 : decode b_Sy_copyOf 21 = .ok (.invokevirtual 29, 3) := by decide +kernel
theorem d_Sy_copyOf_24 : decode b_Sy_copyOf 24 = .ok (.pop, 1) := by decide +kernel
theorem d_Sy_copyOf_25 : decode b_Sy_copyOf 25 = .ok (.iinc 2 1, 3) := by decide +kernel
theorem d_Sy_copyOf_28 : decode b_Sy_copyOf 28 = .ok (.goto (-21), 3) := by decide +kernel
theorem d_Sy_copyOf_31 : decode b_Sy_copyOf 31 = .ok (.return_, 1) := by decide +kernel
theorem ml_Sy_25 : Cond.methodLink R_Sy 25 ⟨"RuleTrees$Symbols", "at", "(I)I"⟩ ∈ TB := tb_of 640 (by decide +kernel) (by decide +kernel)
theorem u_Sy_at : (Cond.instanceMethod y_Sy_at ∈ TB ∧ Cond.selects R_Sy y_Sy_at y_Sy_at ∈ TB) ∧ Cond.initialized R_Sy ∈ TB ∧ Cond.code y_Sy_at b_Sy_at 2 (some .int) ∈ TB := ⟨⟨(tb_of 412 (by decide +kernel) (by decide +kernel)), (tb_of 413 (by decide +kernel) (by decide +kernel))⟩, (tb_of 67 (by decide +kernel) (by decide +kernel)), k_Sy_at⟩
theorem ml_Sy_29 : Cond.methodLink R_Sy 29 ⟨"RuleTrees$Symbols", "append", "(I)Z"⟩ ∈ TB := tb_of 641 (by decide +kernel) (by decide +kernel)
theorem u_Sy_append : (Cond.instanceMethod y_Sy_append ∈ TB ∧ Cond.selects R_Sy y_Sy_append y_Sy_append ∈ TB) ∧ Cond.initialized R_Sy ∈ TB ∧ Cond.code y_Sy_append b_Sy_append 2 (some .boolean) ∈ TB := ⟨⟨(tb_of 351 (by decide +kernel) (by decide +kernel)), (tb_of 352 (by decide +kernel) (by decide +kernel))⟩, (tb_of 67 (by decide +kernel) (by decide +kernel)), k_Sy_append⟩
abbrev rm_Sy_copyOf : Room := { frames := 1, cells := 0, slots := 0, locals := 21 }
def f_Sy_copyOf_7 (N : Nat) (n_self : Nat) (n_p0 : Nat) (kb : (Nat → Nat → Int32) → Int32 → Option ((Nat → Nat → Int32))) (kx31 : (Nat → Nat → Int32) → Option ((Nat → Nat → Int32))) (s_self s_p0 : Nat → Nat → Int32) (v2 : Int32) : Option ((Nat → Nat → Int32)) :=
  if (s_p0 0 1) ≤ v2 then
    kx31 s_self
  else
    bd1 (m_Sy_at n_p0 s_p0 v2) fun r_2 =>
    bd2 (m_Sy_append n_self s_self r_2) fun r_4 s_self_5 =>
    nm (v2 + 1) fun v2_7 =>
    kb s_self_5 v2_7
set_option maxHeartbeats 4000000 in
set_option maxRecDepth 100000 in
theorem t_Sy_copyOf_7 {p : Program} {l : Launch} {e : Env} {s : State} {m : MethodId} {args : Array Value} {below : List Frame} {meth : Method} {c : Code} {A : Nat → Prop} {D : va_G} {K : Nat → ClassId} (a_self a_p0 : Nat → Nat) (n_self : Nat) (n_p0 : Nat) (X : gx p s m args c b_Sy_copyOf 3 R_Sy w_Sy_copyOf D classes (tyK K) A) (hr : meth.sig.returnType = none) (hlk : meth.locks = false) (N : Nat) (f_self : Nat → Nat → Int32) (s_self s_p0 : Nat → Nat → Int32) (v2 : Int32) (kb : (Nat → Nat → Int32) → Int32 → Option ((Nat → Nat → Int32))) (hkb : ∀ (s_self : Nat → Nat → Int32) (v2 : Int32), kb s_self v2 = some f_self → Gd p l e rm_Sy_copyOf s m args below meth c 0 0 (MQ below (sq D classes (tyK K) none (wd_Sy K a_self n_self f_self ++ (wd_Sy K a_p0 n_p0 s_p0)) A) args s 0 0 A) D classes A 3 7 (wd_Sy K a_self n_self s_self ++ (wd_Sy K a_p0 n_p0 s_p0)) [(0, .ref (a_self 0)), (1, .ref (a_p0 0)), (2, .int v2)] []) (kx31 : (Nat → Nat → Int32) → Option ((Nat → Nat → Int32))) (hkx31 : ∀ (s_self : Nat → Nat → Int32), kx31 s_self = some f_self → Gd p l e rm_Sy_copyOf s m args below meth c 0 0 (MQ below (sq D classes (tyK K) none (wd_Sy K a_self n_self f_self ++ (wd_Sy K a_p0 n_p0 s_p0)) A) args s 0 0 A) D classes A 3 31 (wd_Sy K a_self n_self s_self ++ (wd_Sy K a_p0 n_p0 s_p0)) [] []) (h : f_Sy_copyOf_7 N n_self n_p0 kb kx31 s_self s_p0 v2 = some f_self) : Gd p l e rm_Sy_copyOf s m args below meth c 0 0 (MQ below (sq D classes (tyK K) none (wd_Sy K a_self n_self f_self ++ (wd_Sy K a_p0 n_p0 s_p0)) A) args s 0 0 A) D classes A 3 7 (wd_Sy K a_self n_self s_self ++ (wd_Sy K a_p0 n_p0 s_p0)) [(0, .ref (a_self 0)), (1, .ref (a_p0 0)), (2, .int v2)] [] := by
  unfold f_Sy_copyOf_7 at h
  refine gd_iload_n X d_Sy_copyOf_7 2 rfl ?_
  refine gd_aload_n X d_Sy_copyOf_8 1 rfl ?_
  refine gd_get X (ci := 0) (C := R_Sy) (T := F_Sy) (N := 2) (v := .int (s_p0 0 1)) 2 rfl rfl (in_Sy _) 1 (by decide) (List.mem_cons_of_mem _ fl_Sy_21) rfl rfl d_Sy_copyOf_9 ?_
  refine gd_icmp_ge X (tgt := 31) d_Sy_copyOf_12 (by decide) (fun c_1 => ?_) (fun c_1 => ?_)
  · replace h := it_p c_1 h
    refine gd_loc (lv' := []) [] rfl ?_
    exact hkx31 s_self h
  · replace h := it_n c_1 h
    refine gd_aload_n X d_Sy_copyOf_15 0 rfl ?_
    refine gd_aload_n X d_Sy_copyOf_16 1 rfl ?_
    refine gd_iload_n X d_Sy_copyOf_17 2 rfl ?_
    obtain ⟨r_2, hc_3, h⟩ := bd1_e h
    refine gd_pI X (gd_V X (As := [.int v2]) (rest := [.ref (a_self 0)]) (c_Sy_at l D K a_p0 n_p0 s_p0 v2 r_2 hc_3) 1 (gi_V ml_Sy_25 u_Sy_at) rfl ⟨rfl, rfl⟩ (by decide +kernel) ⟨by decide, by decide⟩ (ci := 0) rfl rfl 0 rfl rfl rfl (Nat.le_of_ble_eq_true rfl) ⟨Nat.zero_le _, Nat.zero_le _⟩ d_Sy_copyOf_18) [2, 3] rfl rfl ?_
    obtain ⟨r_4, s_self_5, hc_6, h⟩ := bd2_e h
    refine gd_cI X (gd_V X (As := [.int r_2]) (rest := []) (c_Sy_append l D K a_self n_self s_self r_2 r_4 s_self_5 hc_6) 1 (gi_V ml_Sy_29 u_Sy_append) rfl ⟨rfl, rfl⟩ (by decide +kernel) ⟨by decide, by decide⟩ (ci := 0) rfl rfl 0 rfl rfl rfl (Nat.le_of_ble_eq_true rfl) ⟨Nat.zero_le _, Nat.zero_le _⟩ d_Sy_copyOf_21) (w2 := (wd_Sy K a_self n_self s_self_5 ++ (wd_Sy K a_p0 n_p0 s_p0))) [0, 1] [2, 3] rfl rfl rfl rfl ⟨rfl, rfl⟩ rfl ?_
    refine gd_pop X d_Sy_copyOf_24 rfl ?_
    obtain ⟨v2_7, ev2_7, h⟩ := nm_e' h
    refine gd_iinc X (v := v2_7) (lv' := [(2, .int v2_7), (0, .ref (a_self 0)), (1, .ref (a_p0 0))]) d_Sy_copyOf_25 (k := 2) rfl (by rw [ev2_7]; rfl) (by decide) rfl ?_
    refine gd_goto X (tgt := 7) d_Sy_copyOf_28 (by decide) ?_
    refine gd_loc (lv' := [(0, .ref (a_self 0)), (1, .ref (a_p0 0)), (2, .int v2_7)]) [1, 2, 0] rfl ?_
    exact hkb s_self_5 v2_7 h
def f_Sy_copyOf_31 (N : Nat) (n_self : Nat) (n_p0 : Nat) (s_self s_p0 : Nat → Nat → Int32) : Option ((Nat → Nat → Int32)) :=
  some s_self
set_option maxHeartbeats 4000000 in
set_option maxRecDepth 100000 in
theorem t_Sy_copyOf_31 {p : Program} {l : Launch} {e : Env} {s : State} {m : MethodId} {args : Array Value} {below : List Frame} {meth : Method} {c : Code} {A : Nat → Prop} {D : va_G} {K : Nat → ClassId} (a_self a_p0 : Nat → Nat) (n_self : Nat) (n_p0 : Nat) (X : gx p s m args c b_Sy_copyOf 3 R_Sy w_Sy_copyOf D classes (tyK K) A) (hr : meth.sig.returnType = none) (hlk : meth.locks = false) (N : Nat) (f_self : Nat → Nat → Int32) (s_self s_p0 : Nat → Nat → Int32) (h : f_Sy_copyOf_31 N n_self n_p0 s_self s_p0 = some f_self) : Gd p l e rm_Sy_copyOf s m args below meth c 0 0 (MQ below (sq D classes (tyK K) none (wd_Sy K a_self n_self f_self ++ (wd_Sy K a_p0 n_p0 s_p0)) A) args s 0 0 A) D classes A 3 31 (wd_Sy K a_self n_self s_self ++ (wd_Sy K a_p0 n_p0 s_p0)) [] [] := by
  unfold f_Sy_copyOf_31 at h
  cases h
  exact gd_vret X hr hlk d_Sy_copyOf_31
def l_Sy_copyOf_7 (N : Nat) (n_self : Nat) (n_p0 : Nat) (s_p0 : Nat → Nat → Int32) (kx31 : (Nat → Nat → Int32) → Option ((Nat → Nat → Int32))) : Nat → (Nat → Nat → Int32) → Int32 → Option ((Nat → Nat → Int32))
  | 0, _, _ => none
  | n + 1, s_self, v2 => f_Sy_copyOf_7 N n_self n_p0 (l_Sy_copyOf_7 N n_self n_p0 s_p0 kx31 n) kx31 s_self s_p0 v2
set_option maxHeartbeats 4000000 in
set_option maxRecDepth 100000 in
theorem tl_Sy_copyOf_7 {p : Program} {l : Launch} {e : Env} {s : State} {m : MethodId} {args : Array Value} {below : List Frame} {meth : Method} {c : Code} {A : Nat → Prop} {D : va_G} {K : Nat → ClassId} (a_self a_p0 : Nat → Nat) (n_self : Nat) (n_p0 : Nat) (X : gx p s m args c b_Sy_copyOf 3 R_Sy w_Sy_copyOf D classes (tyK K) A) (hr : meth.sig.returnType = none) (hlk : meth.locks = false) (N : Nat) (f_self : Nat → Nat → Int32) (s_p0 : Nat → Nat → Int32) (kx31 : (Nat → Nat → Int32) → Option ((Nat → Nat → Int32))) (hkx31 : ∀ (s_self : Nat → Nat → Int32), kx31 s_self = some f_self → Gd p l e rm_Sy_copyOf s m args below meth c 0 0 (MQ below (sq D classes (tyK K) none (wd_Sy K a_self n_self f_self ++ (wd_Sy K a_p0 n_p0 s_p0)) A) args s 0 0 A) D classes A 3 31 (wd_Sy K a_self n_self s_self ++ (wd_Sy K a_p0 n_p0 s_p0)) [] []) : ∀ (n : Nat) (s_self : Nat → Nat → Int32) (v2 : Int32), l_Sy_copyOf_7 N n_self n_p0 s_p0 kx31 n s_self v2 = some f_self → Gd p l e rm_Sy_copyOf s m args below meth c 0 0 (MQ below (sq D classes (tyK K) none (wd_Sy K a_self n_self f_self ++ (wd_Sy K a_p0 n_p0 s_p0)) A) args s 0 0 A) D classes A 3 7 (wd_Sy K a_self n_self s_self ++ (wd_Sy K a_p0 n_p0 s_p0)) [(0, .ref (a_self 0)), (1, .ref (a_p0 0)), (2, .int v2)] [] := by
  intro n
  induction n with
  | zero => intro s_self v2 h; have h : (none : Option ((Nat → Nat → Int32))) = some _ := h; cases h
  | succ n ih =>
    intro s_self v2 h
    exact t_Sy_copyOf_7 a_self a_p0 n_self n_p0 X hr hlk N f_self s_self s_p0 v2 (l_Sy_copyOf_7 N n_self n_p0 s_p0 kx31 n) ih kx31 hkx31 h
def f_Sy_copyOf_0 (N : Nat) (n_self : Nat) (n_p0 : Nat) (s_self s_p0 : Nat → Nat → Int32) : Option ((Nat → Nat → Int32)) :=
  nm (st2 s_self 0 1 0) fun s_self_1 =>
  l_Sy_copyOf_7 N n_self n_p0 s_p0 (fun s_self => f_Sy_copyOf_31 N n_self n_p0 s_self s_p0) N s_self_1 0
set_option maxHeartbeats 4000000 in
set_option maxRecDepth 100000 in
theorem t_Sy_copyOf_0 {p : Program} {l : Launch} {e : Env} {s : State} {m : MethodId} {args : Array Value} {below : List Frame} {meth : Method} {c : Code} {A : Nat → Prop} {D : va_G} {K : Nat → ClassId} (a_self a_p0 : Nat → Nat) (n_self : Nat) (n_p0 : Nat) (X : gx p s m args c b_Sy_copyOf 3 R_Sy w_Sy_copyOf D classes (tyK K) A) (hr : meth.sig.returnType = none) (hlk : meth.locks = false) (N : Nat) (f_self : Nat → Nat → Int32) (s_self s_p0 : Nat → Nat → Int32) (h : f_Sy_copyOf_0 N n_self n_p0 s_self s_p0 = some f_self) : Gd p l e rm_Sy_copyOf s m args below meth c 0 0 (MQ below (sq D classes (tyK K) none (wd_Sy K a_self n_self f_self ++ (wd_Sy K a_p0 n_p0 s_p0)) A) args s 0 0 A) D classes A 3 0 (wd_Sy K a_self n_self s_self ++ (wd_Sy K a_p0 n_p0 s_p0)) [(0, .ref (a_self 0)), (1, .ref (a_p0 0))] [] := by
  unfold f_Sy_copyOf_0 at h
  refine gd_aload_n X d_Sy_copyOf_0 0 rfl ?_
  refine gd_iconst X (v := 0) d_Sy_copyOf_1 (by decide) ?_
  obtain ⟨s_self_1, es_self_1, h⟩ := nm_e' h
  refine gd_put X (ci := 0) (C := R_Sy) (T := F_Sy) (N := 2) (ty := .int) (w' := (wd_Sy K a_self n_self s_self_1 ++ (wd_Sy K a_p0 n_p0 s_p0))) 0 rfl rfl (in_Sy _) t_Sy t_Sy_ok n_Sy 1 (by decide) (List.mem_cons_of_mem _ fl_Sy_21) rfl rfl (by decide +kernel) rfl rfl (Nat.le_of_ble_eq_true rfl) d_Sy_copyOf_2 (by rw [es_self_1]; rfl) ?_
  refine gd_iconst X (v := 0) d_Sy_copyOf_5 (by decide) ?_
  refine gd_istore_n X (lv' := [(2, .int 0), (0, .ref (a_self 0)), (1, .ref (a_p0 0))]) d_Sy_copyOf_6 rfl (by decide) rfl ?_
  refine gd_loc (lv' := [(0, .ref (a_self 0)), (1, .ref (a_p0 0)), (2, .int 0)]) [1, 2, 0] rfl ?_
  exact tl_Sy_copyOf_7 a_self a_p0 n_self n_p0 X hr hlk N f_self s_p0 (fun s_self => f_Sy_copyOf_31 N n_self n_p0 s_self s_p0) (fun s_self h => t_Sy_copyOf_31 a_self a_p0 n_self n_p0 X hr hlk N f_self s_self s_p0 h) N s_self_1 0 h
def m_Sy_copyOf (N : Nat) (n_self : Nat) (n_p0 : Nat) (s_self s_p0 : Nat → Nat → Int32) : Option ((Nat → Nat → Int32)) := f_Sy_copyOf_0 N n_self n_p0 s_self s_p0
set_option maxHeartbeats 4000000 in
set_option maxRecDepth 100000 in
theorem c_Sy_copyOf (l : Launch) (D : va_G) (K : Nat → ClassId) (a_self a_p0 : Nat → Nat) (n_self : Nat) (n_p0 : Nat) (N : Nat) (s_self s_p0 : Nat → Nat → Int32) (f_self : Nat → Nat → Int32) (h : m_Sy_copyOf N n_self n_p0 s_self s_p0 = some f_self) : SMet l y_Sy_copyOf w_Sy_copyOf rm_Sy_copyOf D classes (tyK K) [.ref (a_self 0), .ref (a_p0 0)] none (wd_Sy K a_self n_self s_self ++ (wd_Sy K a_p0 n_p0 s_p0)) (wd_Sy K a_self n_self f_self ++ (wd_Sy K a_p0 n_p0 s_p0)) := by
  refine sm_of R_Sy (by decide) rfl rfl (Nat.le_of_ble_eq_true rfl) ?_
  intro p e s m below meth c A X hr hlk
  refine gd_loc (lv' := [(0, .ref (a_self 0)), (1, .ref (a_p0 0))]) [0, 1] rfl ?_
  exact t_Sy_copyOf_0 a_self a_p0 n_self n_p0 X hr hlk N f_self s_self s_p0 h
abbrev b_Sy_firstDifference : ByteArray := prog_6_method_8_code
def y_Sy_firstDifference : MethodName := ⟨R_Sy, "firstDifference", "(LRuleTrees$Symbols;)I"⟩
def w_Sy_firstDifference : List Cond := .code y_Sy_firstDifference b_Sy_firstDifference 4 (some .int) :: TB
theorem k_Sy_firstDifference : Cond.code y_Sy_firstDifference b_Sy_firstDifference 4 (some .int) ∈ TB := tb_of 707 (by decide +kernel) (by decide +kernel)
theorem d_Sy_firstDifference_0 : decode b_Sy_firstDifference 0 = .ok (.aload_n 0, 1) := by decide +kernel
theorem d_Sy_firstDifference_1 : decode b_Sy_firstDifference 1 = .ok (.getfield 21, 3) := by decide +kernel
theorem d_Sy_firstDifference_4 : decode b_Sy_firstDifference 4 = .ok (.aload_n 1, 1) := by decide +kernel
theorem d_Sy_firstDifference_5 : decode b_Sy_firstDifference 5 = .ok (.getfield 21, 3) := by decide +kernel
theorem d_Sy_firstDifference_8 : decode b_Sy_firstDifference 8 = .ok (.invokestatic 37, 3) := by decide +kernel
theorem d_Sy_firstDifference_11 : decode b_Sy_firstDifference 11 = .ok (.istore_n 2, 1) := by decide +kernel
theorem d_Sy_firstDifference_12 : decode b_Sy_firstDifference 12 = .ok (.iconst 0, 1) := by decide +kernel
theorem d_Sy_firstDifference_13 : decode b_Sy_firstDifference 13 = .ok (.istore_n 3, 1) := by decide +kernel
theorem d_Sy_firstDifference_14 : decode b_Sy_firstDifference 14 = .ok (.iload_n 3, 1) := by decide +kernel
theorem d_Sy_firstDifference_15 : decode b_Sy_firstDifference 15 = .ok (.iload_n 2, 1) := by decide +kernel
theorem d_Sy_firstDifference_16 : decode b_Sy_firstDifference 16 = .ok (.if_icmp .ge 24, 3) := by decide +kernel
theorem d_Sy_firstDifference_19 : decode b_Sy_firstDifference 19 = .ok (.aload_n 0, 1) := by decide +kernel
theorem d_Sy_firstDifference_20 : decode b_Sy_firstDifference 20 = .ok (.iload_n 3, 1) := by decide +kernel
theorem d_Sy_firstDifference_21 : decode b_Sy_firstDifference 21 = .ok (.invokevirtual 25, 3) := by decide +kernel
theorem d_Sy_firstDifference_24 : decode b_Sy_firstDifference 24 = .ok (.aload_n 1, 1) := by decide +kernel
theorem d_Sy_firstDifference_25 : decode b_Sy_firstDifference 25 = .ok (.iload_n 3, 1) := by decide +kernel
theorem d_Sy_firstDifference_26 : decode b_Sy_firstDifference 26 = .ok (.invokevirtual 25, 3) := by decide +kernel
theorem d_Sy_firstDifference_29 : decode b_Sy_firstDifference 29 = .ok (.if_icmp .eq 5, 3) := by decide +kernel
theorem d_Sy_firstDifference_32 : decode b_Sy_firstDifference 32 = .ok (.iload_n 3, 1) := by decide +kernel
theorem d_Sy_firstDifference_33 : decode b_Sy_firstDifference 33 = .ok (.ireturn, 1) := by decide +kernel
theorem d_Sy_firstDifference_34 : decode b_Sy_firstDifference 34 = .ok (.iinc 3 1, 3) := by decide +kernel
theorem d_Sy_firstDifference_37 : decode b_Sy_firstDifference 37 = .ok (.goto (-23), 3) := by decide +kernel
theorem d_Sy_firstDifference_40 : decode b_Sy_firstDifference 40 = .ok (.iload_n 2, 1) := by decide +kernel
theorem d_Sy_firstDifference_41 : decode b_Sy_firstDifference 41 = .ok (.ireturn, 1) := by decide +kernel
theorem ml_Sy_37 : Cond.methodLink R_Sy 37 ⟨"java/lang/Math", "min", "(II)I"⟩ ∈ TB := tb_of 708 (by decide +kernel) (by decide +kernel)
theorem mw_min_1 : Cond.static Lib.Math.min.name ∈ TB := tb_of 449 (by decide +kernel) (by decide +kernel)
theorem mw_min_2 : Cond.initialized "java/lang/Math" ∈ TB := tb_of 68 (by decide +kernel) (by decide +kernel)
theorem mw_min_3 : Cond.code Lib.Math.min.name Lib.Math.min.code 2 (some .int) ∈ TB := tb_of 450 (by decide +kernel) (by decide +kernel)
abbrev rm_Sy_firstDifference : Room := { frames := 1, cells := 0, slots := 0, locals := 21 }
def f_Sy_firstDifference_14 (N : Nat) (n_self : Nat) (n_p0 : Nat) (kb : Int32 → Option ((Int32))) (kx32 : Int32 → Option ((Int32))) (kx40 : Option ((Int32))) (s_self s_p0 : Nat → Nat → Int32) (v2 v3 : Int32) : Option ((Int32)) :=
  if v2 ≤ v3 then
    kx40
  else
    bd1 (m_Sy_at n_self s_self v3) fun r_2 =>
    bd1 (m_Sy_at n_p0 s_p0 v3) fun r_4 =>
    if r_2 = r_4 then
      nm (v3 + 1) fun v3_7 =>
      kb v3_7
    else
      kx32 v3
set_option maxHeartbeats 4000000 in
set_option maxRecDepth 100000 in
theorem t_Sy_firstDifference_14 {p : Program} {l : Launch} {e : Env} {s : State} {m : MethodId} {args : Array Value} {below : List Frame} {meth : Method} {c : Code} {A : Nat → Prop} {D : va_G} {K : Nat → ClassId} (a_self a_p0 : Nat → Nat) (n_self : Nat) (n_p0 : Nat) (X : gx p s m args c b_Sy_firstDifference 4 R_Sy w_Sy_firstDifference D classes (tyK K) A) (hr : meth.sig.returnType = some .int) (hlk : meth.locks = false) (N : Nat) (r : Int32) (s_self s_p0 : Nat → Nat → Int32) (v2 v3 : Int32) (kb : Int32 → Option ((Int32))) (hkb : ∀ (v3 : Int32), kb v3 = some r → Gd p l e rm_Sy_firstDifference s m args below meth c 0 0 (MQ below (sq D classes (tyK K) (some (.int r)) (wd_Sy K a_self n_self s_self ++ (wd_Sy K a_p0 n_p0 s_p0)) A) args s 0 0 A) D classes A 4 14 (wd_Sy K a_self n_self s_self ++ (wd_Sy K a_p0 n_p0 s_p0)) [(0, .ref (a_self 0)), (1, .ref (a_p0 0)), (2, .int v2), (3, .int v3)] []) (kx32 : Int32 → Option ((Int32))) (hkx32 : ∀ (v3 : Int32), kx32 v3 = some r → Gd p l e rm_Sy_firstDifference s m args below meth c 0 0 (MQ below (sq D classes (tyK K) (some (.int r)) (wd_Sy K a_self n_self s_self ++ (wd_Sy K a_p0 n_p0 s_p0)) A) args s 0 0 A) D classes A 4 32 (wd_Sy K a_self n_self s_self ++ (wd_Sy K a_p0 n_p0 s_p0)) [(3, .int v3)] []) (kx40 : Option ((Int32))) (hkx40 : kx40 = some r → Gd p l e rm_Sy_firstDifference s m args below meth c 0 0 (MQ below (sq D classes (tyK K) (some (.int r)) (wd_Sy K a_self n_self s_self ++ (wd_Sy K a_p0 n_p0 s_p0)) A) args s 0 0 A) D classes A 4 40 (wd_Sy K a_self n_self s_self ++ (wd_Sy K a_p0 n_p0 s_p0)) [(2, .int v2)] []) (h : f_Sy_firstDifference_14 N n_self n_p0 kb kx32 kx40 s_self s_p0 v2 v3 = some r) : Gd p l e rm_Sy_firstDifference s m args below meth c 0 0 (MQ below (sq D classes (tyK K) (some (.int r)) (wd_Sy K a_self n_self s_self ++ (wd_Sy K a_p0 n_p0 s_p0)) A) args s 0 0 A) D classes A 4 14 (wd_Sy K a_self n_self s_self ++ (wd_Sy K a_p0 n_p0 s_p0)) [(0, .ref (a_self 0)), (1, .ref (a_p0 0)), (2, .int v2), (3, .int v3)] [] := by
  unfold f_Sy_firstDifference_14 at h
  refine gd_iload_n X d_Sy_firstDifference_14 3 rfl ?_
  refine gd_iload_n X d_Sy_firstDifference_15 2 rfl ?_
  refine gd_icmp_ge X (tgt := 40) d_Sy_firstDifference_16 (by decide) (fun c_1 => ?_) (fun c_1 => ?_)
  · replace h := it_p c_1 h
    refine gd_loc (lv' := [(2, .int v2)]) [2] rfl ?_
    exact hkx40 h
  · replace h := it_n c_1 h
    refine gd_aload_n X d_Sy_firstDifference_19 0 rfl ?_
    refine gd_iload_n X d_Sy_firstDifference_20 3 rfl ?_
    obtain ⟨r_2, hc_3, h⟩ := bd1_e h
    refine gd_pI X (gd_V X (As := [.int v3]) (rest := []) (c_Sy_at l D K a_self n_self s_self v3 r_2 hc_3) 1 (gi_V ml_Sy_25 u_Sy_at) rfl ⟨rfl, rfl⟩ (by decide +kernel) ⟨by decide, by decide⟩ (ci := 0) rfl rfl 0 rfl rfl rfl (Nat.le_of_ble_eq_true rfl) ⟨Nat.zero_le _, Nat.zero_le _⟩ d_Sy_firstDifference_21) [0, 1] rfl rfl ?_
    refine gd_aload_n X d_Sy_firstDifference_24 1 rfl ?_
    refine gd_iload_n X d_Sy_firstDifference_25 3 rfl ?_
    obtain ⟨r_4, hc_5, h⟩ := bd1_e h
    refine gd_pI X (gd_V X (As := [.int v3]) (rest := [.int r_2]) (c_Sy_at l D K a_p0 n_p0 s_p0 v3 r_4 hc_5) 1 (gi_V ml_Sy_25 u_Sy_at) rfl ⟨rfl, rfl⟩ (by decide +kernel) ⟨by decide, by decide⟩ (ci := 0) rfl rfl 0 rfl rfl rfl (Nat.le_of_ble_eq_true rfl) ⟨Nat.zero_le _, Nat.zero_le _⟩ d_Sy_firstDifference_26) [2, 3] rfl rfl ?_
    refine gd_icmp_eq X (tgt := 34) d_Sy_firstDifference_29 (by decide) (fun c_6 => ?_) (fun c_6 => ?_)
    · replace h := it_p c_6 h
      obtain ⟨v3_7, ev3_7, h⟩ := nm_e' h
      refine gd_iinc X (v := v3_7) (lv' := [(3, .int v3_7), (0, .ref (a_self 0)), (1, .ref (a_p0 0)), (2, .int v2)]) d_Sy_firstDifference_34 (k := 3) rfl (by rw [ev3_7]; rfl) (by decide) rfl ?_
      refine gd_goto X (tgt := 14) d_Sy_firstDifference_37 (by decide) ?_
      refine gd_loc (lv' := [(0, .ref (a_self 0)), (1, .ref (a_p0 0)), (2, .int v2), (3, .int v3_7)]) [1, 2, 3, 0] rfl ?_
      exact hkb v3_7 h
    · replace h := it_n c_6 h
      refine gd_loc (lv' := [(3, .int v3)]) [3] rfl ?_
      exact hkx32 v3 h
def f_Sy_firstDifference_32 (N : Nat) (n_self : Nat) (n_p0 : Nat) (s_self s_p0 : Nat → Nat → Int32) (v3 : Int32) : Option ((Int32)) :=
  some (v3)
set_option maxHeartbeats 4000000 in
set_option maxRecDepth 100000 in
theorem t_Sy_firstDifference_32 {p : Program} {l : Launch} {e : Env} {s : State} {m : MethodId} {args : Array Value} {below : List Frame} {meth : Method} {c : Code} {A : Nat → Prop} {D : va_G} {K : Nat → ClassId} (a_self a_p0 : Nat → Nat) (n_self : Nat) (n_p0 : Nat) (X : gx p s m args c b_Sy_firstDifference 4 R_Sy w_Sy_firstDifference D classes (tyK K) A) (hr : meth.sig.returnType = some .int) (hlk : meth.locks = false) (N : Nat) (r : Int32) (s_self s_p0 : Nat → Nat → Int32) (v3 : Int32) (h : f_Sy_firstDifference_32 N n_self n_p0 s_self s_p0 v3 = some r) : Gd p l e rm_Sy_firstDifference s m args below meth c 0 0 (MQ below (sq D classes (tyK K) (some (.int r)) (wd_Sy K a_self n_self s_self ++ (wd_Sy K a_p0 n_p0 s_p0)) A) args s 0 0 A) D classes A 4 32 (wd_Sy K a_self n_self s_self ++ (wd_Sy K a_p0 n_p0 s_p0)) [(3, .int v3)] [] := by
  unfold f_Sy_firstDifference_32 at h
  refine gd_iload_n X d_Sy_firstDifference_32 0 rfl ?_
  cases h
  exact gd_iret X hr hlk d_Sy_firstDifference_33
def f_Sy_firstDifference_40 (N : Nat) (n_self : Nat) (n_p0 : Nat) (s_self s_p0 : Nat → Nat → Int32) (v2 : Int32) : Option ((Int32)) :=
  some (v2)
set_option maxHeartbeats 4000000 in
set_option maxRecDepth 100000 in
theorem t_Sy_firstDifference_40 {p : Program} {l : Launch} {e : Env} {s : State} {m : MethodId} {args : Array Value} {below : List Frame} {meth : Method} {c : Code} {A : Nat → Prop} {D : va_G} {K : Nat → ClassId} (a_self a_p0 : Nat → Nat) (n_self : Nat) (n_p0 : Nat) (X : gx p s m args c b_Sy_firstDifference 4 R_Sy w_Sy_firstDifference D classes (tyK K) A) (hr : meth.sig.returnType = some .int) (hlk : meth.locks = false) (N : Nat) (r : Int32) (s_self s_p0 : Nat → Nat → Int32) (v2 : Int32) (h : f_Sy_firstDifference_40 N n_self n_p0 s_self s_p0 v2 = some r) : Gd p l e rm_Sy_firstDifference s m args below meth c 0 0 (MQ below (sq D classes (tyK K) (some (.int r)) (wd_Sy K a_self n_self s_self ++ (wd_Sy K a_p0 n_p0 s_p0)) A) args s 0 0 A) D classes A 4 40 (wd_Sy K a_self n_self s_self ++ (wd_Sy K a_p0 n_p0 s_p0)) [(2, .int v2)] [] := by
  unfold f_Sy_firstDifference_40 at h
  refine gd_iload_n X d_Sy_firstDifference_40 0 rfl ?_
  cases h
  exact gd_iret X hr hlk d_Sy_firstDifference_41
def l_Sy_firstDifference_14 (N : Nat) (n_self : Nat) (n_p0 : Nat) (s_self s_p0 : Nat → Nat → Int32) (v2 : Int32) (kx32 : Int32 → Option ((Int32))) (kx40 : Option ((Int32))) : Nat → Int32 → Option ((Int32))
  | 0, _ => none
  | n + 1, v3 => f_Sy_firstDifference_14 N n_self n_p0 (l_Sy_firstDifference_14 N n_self n_p0 s_self s_p0 v2 kx32 kx40 n) kx32 kx40 s_self s_p0 v2 v3
set_option maxHeartbeats 4000000 in
set_option maxRecDepth 100000 in
theorem tl_Sy_firstDifference_14 {p : Program} {l : Launch} {e : Env} {s : State} {m : MethodId} {args : Array Value} {below : List Frame} {meth : Method} {c : Code} {A : Nat → Prop} {D : va_G} {K : Nat → ClassId} (a_self a_p0 : Nat → Nat) (n_self : Nat) (n_p0 : Nat) (X : gx p s m args c b_Sy_firstDifference 4 R_Sy w_Sy_firstDifference D classes (tyK K) A) (hr : meth.sig.returnType = some .int) (hlk : meth.locks = false) (N : Nat) (r : Int32) (s_self s_p0 : Nat → Nat → Int32) (v2 : Int32) (kx32 : Int32 → Option ((Int32))) (hkx32 : ∀ (v3 : Int32), kx32 v3 = some r → Gd p l e rm_Sy_firstDifference s m args below meth c 0 0 (MQ below (sq D classes (tyK K) (some (.int r)) (wd_Sy K a_self n_self s_self ++ (wd_Sy K a_p0 n_p0 s_p0)) A) args s 0 0 A) D classes A 4 32 (wd_Sy K a_self n_self s_self ++ (wd_Sy K a_p0 n_p0 s_p0)) [(3, .int v3)] []) (kx40 : Option ((Int32))) (hkx40 : kx40 = some r → Gd p l e rm_Sy_firstDifference s m args below meth c 0 0 (MQ below (sq D classes (tyK K) (some (.int r)) (wd_Sy K a_self n_self s_self ++ (wd_Sy K a_p0 n_p0 s_p0)) A) args s 0 0 A) D classes A 4 40 (wd_Sy K a_self n_self s_self ++ (wd_Sy K a_p0 n_p0 s_p0)) [(2, .int v2)] []) : ∀ (n : Nat) (v3 : Int32), l_Sy_firstDifference_14 N n_self n_p0 s_self s_p0 v2 kx32 kx40 n v3 = some r → Gd p l e rm_Sy_firstDifference s m args below meth c 0 0 (MQ below (sq D classes (tyK K) (some (.int r)) (wd_Sy K a_self n_self s_self ++ (wd_Sy K a_p0 n_p0 s_p0)) A) args s 0 0 A) D classes A 4 14 (wd_Sy K a_self n_self s_self ++ (wd_Sy K a_p0 n_p0 s_p0)) [(0, .ref (a_self 0)), (1, .ref (a_p0 0)), (2, .int v2), (3, .int v3)] [] := by
  intro n
  induction n with
  | zero => intro v3 h; have h : (none : Option ((Int32))) = some _ := h; cases h
  | succ n ih =>
    intro v3 h
    exact t_Sy_firstDifference_14 a_self a_p0 n_self n_p0 X hr hlk N r s_self s_p0 v2 v3 (l_Sy_firstDifference_14 N n_self n_p0 s_self s_p0 v2 kx32 kx40 n) ih kx32 hkx32 kx40 hkx40 h
def f_Sy_firstDifference_0 (N : Nat) (n_self : Nat) (n_p0 : Nat) (s_self s_p0 : Nat → Nat → Int32) : Option ((Int32)) :=
  nm (if (s_p0 0 1) < (s_self 0 1) then (s_p0 0 1) else (s_self 0 1)) fun v_1 =>
  l_Sy_firstDifference_14 N n_self n_p0 s_self s_p0 v_1 (fun v3 => f_Sy_firstDifference_32 N n_self n_p0 s_self s_p0 v3) (f_Sy_firstDifference_40 N n_self n_p0 s_self s_p0 v_1) N 0
set_option maxHeartbeats 4000000 in
set_option maxRecDepth 100000 in
theorem t_Sy_firstDifference_0 {p : Program} {l : Launch} {e : Env} {s : State} {m : MethodId} {args : Array Value} {below : List Frame} {meth : Method} {c : Code} {A : Nat → Prop} {D : va_G} {K : Nat → ClassId} (a_self a_p0 : Nat → Nat) (n_self : Nat) (n_p0 : Nat) (X : gx p s m args c b_Sy_firstDifference 4 R_Sy w_Sy_firstDifference D classes (tyK K) A) (hr : meth.sig.returnType = some .int) (hlk : meth.locks = false) (N : Nat) (r : Int32) (s_self s_p0 : Nat → Nat → Int32) (h : f_Sy_firstDifference_0 N n_self n_p0 s_self s_p0 = some r) : Gd p l e rm_Sy_firstDifference s m args below meth c 0 0 (MQ below (sq D classes (tyK K) (some (.int r)) (wd_Sy K a_self n_self s_self ++ (wd_Sy K a_p0 n_p0 s_p0)) A) args s 0 0 A) D classes A 4 0 (wd_Sy K a_self n_self s_self ++ (wd_Sy K a_p0 n_p0 s_p0)) [(0, .ref (a_self 0)), (1, .ref (a_p0 0))] [] := by
  unfold f_Sy_firstDifference_0 at h
  refine gd_aload_n X d_Sy_firstDifference_0 0 rfl ?_
  refine gd_get X (ci := 0) (C := R_Sy) (T := F_Sy) (N := 2) (v := .int (s_self 0 1)) 0 rfl rfl (in_Sy _) 1 (by decide) (List.mem_cons_of_mem _ fl_Sy_21) rfl rfl d_Sy_firstDifference_1 ?_
  refine gd_aload_n X d_Sy_firstDifference_4 1 rfl ?_
  refine gd_get X (ci := 0) (C := R_Sy) (T := F_Sy) (N := 2) (v := .int (s_p0 0 1)) 2 rfl rfl (in_Sy _) 1 (by decide) (List.mem_cons_of_mem _ fl_Sy_21) rfl rfl d_Sy_firstDifference_5 ?_
  obtain ⟨v_1, ev_1, h⟩ := nm_e' h
  refine gd_mmin X (List.mem_cons_of_mem _ ml_Sy_37) (List.mem_cons_of_mem _ mw_min_1) (List.mem_cons_of_mem _ mw_min_2) (List.mem_cons_of_mem _ mw_min_3) (Nat.le_of_ble_eq_true rfl) (Nat.le_of_ble_eq_true rfl) ⟨Nat.zero_le _, Nat.zero_le _⟩ d_Sy_firstDifference_8 ?_
  refine gd_topi ev_1 ?_
  refine gd_istore_n X (lv' := [(2, .int v_1), (0, .ref (a_self 0)), (1, .ref (a_p0 0))]) d_Sy_firstDifference_11 rfl (by decide) rfl ?_
  refine gd_iconst X (v := 0) d_Sy_firstDifference_12 (by decide) ?_
  refine gd_istore_n X (lv' := [(3, .int 0), (2, .int v_1), (0, .ref (a_self 0)), (1, .ref (a_p0 0))]) d_Sy_firstDifference_13 rfl (by decide) rfl ?_
  refine gd_loc (lv' := [(0, .ref (a_self 0)), (1, .ref (a_p0 0)), (2, .int v_1), (3, .int 0)]) [2, 3, 1, 0] rfl ?_
  exact tl_Sy_firstDifference_14 a_self a_p0 n_self n_p0 X hr hlk N r s_self s_p0 v_1 (fun v3 => f_Sy_firstDifference_32 N n_self n_p0 s_self s_p0 v3) (fun v3 h => t_Sy_firstDifference_32 a_self a_p0 n_self n_p0 X hr hlk N r s_self s_p0 v3 h) (f_Sy_firstDifference_40 N n_self n_p0 s_self s_p0 v_1) (fun h => t_Sy_firstDifference_40 a_self a_p0 n_self n_p0 X hr hlk N r s_self s_p0 v_1 h) N 0 h
def m_Sy_firstDifference (N : Nat) (n_self : Nat) (n_p0 : Nat) (s_self s_p0 : Nat → Nat → Int32) : Option ((Int32)) := f_Sy_firstDifference_0 N n_self n_p0 s_self s_p0
set_option maxHeartbeats 4000000 in
set_option maxRecDepth 100000 in
theorem c_Sy_firstDifference (l : Launch) (D : va_G) (K : Nat → ClassId) (a_self a_p0 : Nat → Nat) (n_self : Nat) (n_p0 : Nat) (N : Nat) (s_self s_p0 : Nat → Nat → Int32) (r : Int32) (h : m_Sy_firstDifference N n_self n_p0 s_self s_p0 = some r) : SMet l y_Sy_firstDifference w_Sy_firstDifference rm_Sy_firstDifference D classes (tyK K) [.ref (a_self 0), .ref (a_p0 0)] (some (.int r)) (wd_Sy K a_self n_self s_self ++ (wd_Sy K a_p0 n_p0 s_p0)) (wd_Sy K a_self n_self s_self ++ (wd_Sy K a_p0 n_p0 s_p0)) := by
  refine sm_of R_Sy (by decide) rfl rfl (Nat.le_of_ble_eq_true rfl) ?_
  intro p e s m below meth c A X hr hlk
  refine gd_loc (lv' := [(0, .ref (a_self 0)), (1, .ref (a_p0 0))]) [0, 1] rfl ?_
  exact t_Sy_firstDifference_0 a_self a_p0 n_self n_p0 X hr hlk N r s_self s_p0 h
abbrev b_Sy_isSameAs : ByteArray := prog_6_method_6_code
def y_Sy_isSameAs : MethodName := ⟨R_Sy, "isSameAs", "(LRuleTrees$Symbols;)Z"⟩
def w_Sy_isSameAs : List Cond := .code y_Sy_isSameAs b_Sy_isSameAs 2 (some .boolean) :: TB
theorem k_Sy_isSameAs : Cond.code y_Sy_isSameAs b_Sy_isSameAs 2 (some .boolean) ∈ TB := tb_of 703 (by decide +kernel) (by decide +kernel)
theorem d_Sy_isSameAs_0 : decode b_Sy_isSameAs 0 = .ok (.aload_n 0, 1) := by decide +kernel
theorem d_Sy_isSameAs_1 : decode b_Sy_isSameAs 1 = .ok (.getfield 21, 3) := by decide +kernel
theorem d_Sy_isSameAs_4 : decode b_Sy_isSameAs 4 = .ok (.aload_n 1, 1) := by decide +kernel
theorem d_Sy_isSameAs_5 : decode b_Sy_isSameAs 5 = .ok (.getfield 21, 3) := by decide +kernel
theorem d_Sy_isSameAs_8 : decode b_Sy_isSameAs 8 = .ok (.if_icmp .ne 19, 3) := by decide +kernel
theorem d_Sy_isSameAs_11 : decode b_Sy_isSameAs 11 = .ok (.aload_n 0, 1) := by decide +kernel
theorem d_Sy_isSameAs_12 : decode b_Sy_isSameAs 12 = .ok (.aload_n 1, 1) := by decide +kernel
theorem d_Sy_isSameAs_13 : decode b_Sy_isSameAs 13 = .ok (.invokevirtual 33, 3) := by decide +kernel
theorem d_Sy_isSameAs_16 : decode b_Sy_isSameAs 16 = .ok (.aload_n 0, 1) := by decide +kernel
theorem d_Sy_isSameAs_17 : decode b_Sy_isSameAs 17 = .ok (.getfield 21, 3) := by decide +kernel
theorem d_Sy_isSameAs_20 : decode b_Sy_isSameAs 20 = .ok (.if_icmp .ne 7, 3) := by decide +kernel
theorem d_Sy_isSameAs_23 : decode b_Sy_isSameAs 23 = .ok (.iconst 1, 1) := by decide +kernel
theorem d_Sy_isSameAs_24 : decode b_Sy_isSameAs 24 = .ok (.goto 4, 3) := by decide +kernel
theorem d_Sy_isSameAs_27 : decode b_Sy_isSameAs 27 = .ok (.iconst 0, 1) := by decide +kernel
theorem d_Sy_isSameAs_28 : decode b_Sy_isSameAs 28 = .ok (.ireturn, 1) := by decide +kernel
theorem ml_Sy_33 : Cond.methodLink R_Sy 33 ⟨"RuleTrees$Symbols", "firstDifference", "(LRuleTrees$Symbols;)I"⟩ ∈ TB := tb_of 704 (by decide +kernel) (by decide +kernel)
theorem u_Sy_firstDifference : (Cond.instanceMethod y_Sy_firstDifference ∈ TB ∧ Cond.selects R_Sy y_Sy_firstDifference y_Sy_firstDifference ∈ TB) ∧ Cond.initialized R_Sy ∈ TB ∧ Cond.code y_Sy_firstDifference b_Sy_firstDifference 4 (some .int) ∈ TB := ⟨⟨(tb_of 706 (by decide +kernel) (by decide +kernel)), (tb_of 34 (by decide +kernel) (by decide +kernel))⟩, (tb_of 67 (by decide +kernel) (by decide +kernel)), k_Sy_firstDifference⟩
abbrev rm_Sy_isSameAs : Room := { frames := 2, cells := 0, slots := 0, locals := 44 }
def f_Sy_isSameAs_0 (N : Nat) (n_self : Nat) (n_p0 : Nat) (s_self s_p0 : Nat → Nat → Int32) : Option ((Int32)) :=
  if (s_self 0 1) = (s_p0 0 1) then
    bd1 (m_Sy_firstDifference N n_self n_p0 s_self s_p0) fun r_2 =>
    if r_2 = (s_self 0 1) then
      some (1)
    else
      some (0)
  else
    some (0)
set_option maxHeartbeats 4000000 in
set_option maxRecDepth 100000 in
theorem t_Sy_isSameAs_0 {p : Program} {l : Launch} {e : Env} {s : State} {m : MethodId} {args : Array Value} {below : List Frame} {meth : Method} {c : Code} {A : Nat → Prop} {D : va_G} {K : Nat → ClassId} (a_self a_p0 : Nat → Nat) (n_self : Nat) (n_p0 : Nat) (X : gx p s m args c b_Sy_isSameAs 2 R_Sy w_Sy_isSameAs D classes (tyK K) A) (hr : meth.sig.returnType = some .boolean) (hlk : meth.locks = false) (N : Nat) (r : Int32) (s_self s_p0 : Nat → Nat → Int32) (h : f_Sy_isSameAs_0 N n_self n_p0 s_self s_p0 = some r) : Gd p l e rm_Sy_isSameAs s m args below meth c 0 0 (MQ below (sq D classes (tyK K) (some (.int r)) (wd_Sy K a_self n_self s_self ++ (wd_Sy K a_p0 n_p0 s_p0)) A) args s 0 0 A) D classes A 2 0 (wd_Sy K a_self n_self s_self ++ (wd_Sy K a_p0 n_p0 s_p0)) [(0, .ref (a_self 0)), (1, .ref (a_p0 0))] [] := by
  unfold f_Sy_isSameAs_0 at h
  refine gd_aload_n X d_Sy_isSameAs_0 0 rfl ?_
  refine gd_get X (ci := 0) (C := R_Sy) (T := F_Sy) (N := 2) (v := .int (s_self 0 1)) 0 rfl rfl (in_Sy _) 1 (by decide) (List.mem_cons_of_mem _ fl_Sy_21) rfl rfl d_Sy_isSameAs_1 ?_
  refine gd_aload_n X d_Sy_isSameAs_4 1 rfl ?_
  refine gd_get X (ci := 0) (C := R_Sy) (T := F_Sy) (N := 2) (v := .int (s_p0 0 1)) 2 rfl rfl (in_Sy _) 1 (by decide) (List.mem_cons_of_mem _ fl_Sy_21) rfl rfl d_Sy_isSameAs_5 ?_
  refine gd_icmp_ne X (tgt := 27) d_Sy_isSameAs_8 (by decide) (fun c_1 => ?_) (fun c_1 => ?_)
  · replace h := it_n c_1 h
    refine gd_iconst X (v := 0) d_Sy_isSameAs_27 (by decide) ?_
    cases h
    exact gd_zret X hr hlk (by decide) d_Sy_isSameAs_28
  · replace h := it_p c_1 h
    refine gd_aload_n X d_Sy_isSameAs_11 0 rfl ?_
    refine gd_aload_n X d_Sy_isSameAs_12 1 rfl ?_
    obtain ⟨r_2, hc_3, h⟩ := bd1_e h
    refine gd_fI X (gd_V X (As := [.ref (a_p0 0)]) (rest := []) (c_Sy_firstDifference l D K a_self a_p0 n_self n_p0 N s_self s_p0 r_2 hc_3) 1 (gi_V ml_Sy_33 u_Sy_firstDifference) rfl ⟨rfl, rfl⟩ (by decide +kernel) ⟨by decide, by decide⟩ (ci := 0) rfl rfl 0 rfl rfl rfl (Nat.le_of_ble_eq_true rfl) ⟨Nat.zero_le _, Nat.zero_le _⟩ d_Sy_isSameAs_13) rfl ?_
    refine gd_aload_n X d_Sy_isSameAs_16 0 rfl ?_
    refine gd_get X (ci := 0) (C := R_Sy) (T := F_Sy) (N := 2) (v := .int (s_self 0 1)) 0 rfl rfl (in_Sy _) 1 (by decide) (List.mem_cons_of_mem _ fl_Sy_21) rfl rfl d_Sy_isSameAs_17 ?_
    refine gd_icmp_ne X (tgt := 27) d_Sy_isSameAs_20 (by decide) (fun c_4 => ?_) (fun c_4 => ?_)
    · replace h := it_n c_4 h
      refine gd_iconst X (v := 0) d_Sy_isSameAs_27 (by decide) ?_
      cases h
      exact gd_zret X hr hlk (by decide) d_Sy_isSameAs_28
    · replace h := it_p c_4 h
      refine gd_iconst X (v := 1) d_Sy_isSameAs_23 (by decide) ?_
      refine gd_goto X (tgt := 28) d_Sy_isSameAs_24 (by decide) ?_
      cases h
      exact gd_zret X hr hlk (by decide) d_Sy_isSameAs_28
def m_Sy_isSameAs (N : Nat) (n_self : Nat) (n_p0 : Nat) (s_self s_p0 : Nat → Nat → Int32) : Option ((Int32)) := f_Sy_isSameAs_0 N n_self n_p0 s_self s_p0
set_option maxHeartbeats 4000000 in
set_option maxRecDepth 100000 in
theorem c_Sy_isSameAs (l : Launch) (D : va_G) (K : Nat → ClassId) (a_self a_p0 : Nat → Nat) (n_self : Nat) (n_p0 : Nat) (N : Nat) (s_self s_p0 : Nat → Nat → Int32) (r : Int32) (h : m_Sy_isSameAs N n_self n_p0 s_self s_p0 = some r) : SMet l y_Sy_isSameAs w_Sy_isSameAs rm_Sy_isSameAs D classes (tyK K) [.ref (a_self 0), .ref (a_p0 0)] (some (.int r)) (wd_Sy K a_self n_self s_self ++ (wd_Sy K a_p0 n_p0 s_p0)) (wd_Sy K a_self n_self s_self ++ (wd_Sy K a_p0 n_p0 s_p0)) := by
  refine sm_of R_Sy (by decide) rfl rfl (Nat.le_of_ble_eq_true rfl) ?_
  intro p e s m below meth c A X hr hlk
  refine gd_loc (lv' := [(0, .ref (a_self 0)), (1, .ref (a_p0 0))]) [0, 1] rfl ?_
  exact t_Sy_isSameAs_0 a_self a_p0 n_self n_p0 X hr hlk N r s_self s_p0 h
abbrev b_Sy_isLessThan : ByteArray := prog_6_method_7_code
def y_Sy_isLessThan : MethodName := ⟨R_Sy, "isLessThan", "(LRuleTrees$Symbols;)Z"⟩
def w_Sy_isLessThan : List Cond := .code y_Sy_isLessThan b_Sy_isLessThan 3 (some .boolean) :: TB
theorem k_Sy_isLessThan : Cond.code y_Sy_isLessThan b_Sy_isLessThan 3 (some .boolean) ∈ TB := tb_of 712 (by decide +kernel) (by decide +kernel)
theorem d_Sy_isLessThan_0 : decode b_Sy_isLessThan 0 = .ok (.aload_n 0, 1) := by decide +kernel
theorem d_Sy_isLessThan_1 : decode b_Sy_isLessThan 1 = .ok (.getfield 21, 3) := by decide +kernel
theorem d_Sy_isLessThan_4 : decode b_Sy_isLessThan 4 = .ok (.aload_n 1, 1) := by decide +kernel
theorem d_Sy_isLessThan_5 : decode b_Sy_isLessThan 5 = .ok (.getfield 21, 3) := by decide +kernel
theorem d_Sy_isLessThan_8 : decode b_Sy_isLessThan 8 = .ok (.if_icmp .eq 20, 3) := by decide +kernel
theorem d_Sy_isLessThan_11 : decode b_Sy_isLessThan 11 = .ok (.aload_n 0, 1) := by decide +kernel
theorem d_Sy_isLessThan_12 : decode b_Sy_isLessThan 12 = .ok (.getfield 21, 3) := by decide +kernel
theorem d_Sy_isLessThan_15 : decode b_Sy_isLessThan 15 = .ok (.aload_n 1, 1) := by decide +kernel
theorem d_Sy_isLessThan_16 : decode b_Sy_isLessThan 16 = .ok (.getfield 21, 3) := by decide +kernel
theorem d_Sy_isLessThan_19 : decode b_Sy_isLessThan 19 = .ok (.if_icmp .ge 7, 3) := by decide +kernel
theorem d_Sy_isLessThan_22 : decode b_Sy_isLessThan 22 = .ok (.iconst 1, 1) := by decide +kernel
theorem d_Sy_isLessThan_23 : decode b_Sy_isLessThan 23 = .ok (.goto 4, 3) := by decide +kernel
theorem d_Sy_isLessThan_26 : decode b_Sy_isLessThan 26 = .ok (.iconst 0, 1) := by decide +kernel
theorem d_Sy_isLessThan_27 : decode b_Sy_isLessThan 27 = .ok (.ireturn, 1) := by decide +kernel
theorem d_Sy_isLessThan_28 : decode b_Sy_isLessThan 28 = .ok (.aload_n 0, 1) := by decide +kernel
theorem d_Sy_isLessThan_29 : decode b_Sy_isLessThan 29 = .ok (.aload_n 1, 1) := by decide +kernel
theorem d_Sy_isLessThan_30 : decode b_Sy_isLessThan 30 = .ok (.invokevirtual 33, 3) := by decide +kernel
theorem d_Sy_isLessThan_33 : decode b_Sy_isLessThan 33 = .ok (.istore_n 2, 1) := by decide +kernel
theorem d_Sy_isLessThan_34 : decode b_Sy_isLessThan 34 = .ok (.iload_n 2, 1) := by decide +kernel
theorem d_Sy_isLessThan_35 : decode b_Sy_isLessThan 35 = .ok (.aload_n 0, 1) := by decide +kernel
theorem d_Sy_isLessThan_36 : decode b_Sy_isLessThan 36 = .ok (.getfield 21, 3) := by decide +kernel
theorem d_Sy_isLessThan_39 : decode b_Sy_isLessThan 39 = .ok (.if_icmp .ge 20, 3) := by decide +kernel
theorem d_Sy_isLessThan_42 : decode b_Sy_isLessThan 42 = .ok (.aload_n 0, 1) := by decide +kernel
theorem d_Sy_isLessThan_43 : decode b_Sy_isLessThan 43 = .ok (.iload_n 2, 1) := by decide +kernel
theorem d_Sy_isLessThan_44 : decode b_Sy_isLessThan 44 = .ok (.invokevirtual 25, 3) := by decide +kernel
theorem d_Sy_isLessThan_47 : decode b_Sy_isLessThan 47 = .ok (.aload_n 1, 1) := by decide +kernel
theorem d_Sy_isLessThan_48 : decode b_Sy_isLessThan 48 = .ok (.iload_n 2, 1) := by decide +kernel
theorem d_Sy_isLessThan_49 : decode b_Sy_isLessThan 49 = .ok (.invokevirtual 25, 3) := by decide +kernel
theorem d_Sy_isLessThan_52 : decode b_Sy_isLessThan 52 = .ok (.if_icmp .ge 7, 3) := by decide +kernel
theorem d_Sy_isLessThan_55 : decode b_Sy_isLessThan 55 = .ok (.iconst 1, 1) := by decide +kernel
theorem d_Sy_isLessThan_56 : decode b_Sy_isLessThan 56 = .ok (.goto 4, 3) := by decide +kernel
theorem d_Sy_isLessThan_59 : decode b_Sy_isLessThan 59 = .ok (.iconst 0, 1) := by decide +kernel
theorem d_Sy_isLessThan_60 : decode b_Sy_isLessThan 60 = .ok (.ireturn, 1) := by decide +kernel
abbrev rm_Sy_isLessThan : Room := { frames := 2, cells := 0, slots := 0, locals := 44 }
def f_Sy_isLessThan_0 (N : Nat) (n_self : Nat) (n_p0 : Nat) (s_self s_p0 : Nat → Nat → Int32) : Option ((Int32)) :=
  if (s_self 0 1) = (s_p0 0 1) then
    bd1 (m_Sy_firstDifference N n_self n_p0 s_self s_p0) fun r_2 =>
    if (s_self 0 1) ≤ r_2 then
      some (0)
    else
      bd1 (m_Sy_at n_self s_self r_2) fun r_5 =>
      bd1 (m_Sy_at n_p0 s_p0 r_2) fun r_7 =>
      if r_7 ≤ r_5 then
        some (0)
      else
        some (1)
  else
    if (s_p0 0 1) ≤ (s_self 0 1) then
      some (0)
    else
      some (1)
set_option maxHeartbeats 4000000 in
set_option maxRecDepth 100000 in
theorem t_Sy_isLessThan_0 {p : Program} {l : Launch} {e : Env} {s : State} {m : MethodId} {args : Array Value} {below : List Frame} {meth : Method} {c : Code} {A : Nat → Prop} {D : va_G} {K : Nat → ClassId} (a_self a_p0 : Nat → Nat) (n_self : Nat) (n_p0 : Nat) (X : gx p s m args c b_Sy_isLessThan 3 R_Sy w_Sy_isLessThan D classes (tyK K) A) (hr : meth.sig.returnType = some .boolean) (hlk : meth.locks = false) (N : Nat) (r : Int32) (s_self s_p0 : Nat → Nat → Int32) (h : f_Sy_isLessThan_0 N n_self n_p0 s_self s_p0 = some r) : Gd p l e rm_Sy_isLessThan s m args below meth c 0 0 (MQ below (sq D classes (tyK K) (some (.int r)) (wd_Sy K a_self n_self s_self ++ (wd_Sy K a_p0 n_p0 s_p0)) A) args s 0 0 A) D classes A 3 0 (wd_Sy K a_self n_self s_self ++ (wd_Sy K a_p0 n_p0 s_p0)) [(0, .ref (a_self 0)), (1, .ref (a_p0 0))] [] := by
  unfold f_Sy_isLessThan_0 at h
  refine gd_aload_n X d_Sy_isLessThan_0 0 rfl ?_
  refine gd_get X (ci := 0) (C := R_Sy) (T := F_Sy) (N := 2) (v := .int (s_self 0 1)) 0 rfl rfl (in_Sy _) 1 (by decide) (List.mem_cons_of_mem _ fl_Sy_21) rfl rfl d_Sy_isLessThan_1 ?_
  refine gd_aload_n X d_Sy_isLessThan_4 1 rfl ?_
  refine gd_get X (ci := 0) (C := R_Sy) (T := F_Sy) (N := 2) (v := .int (s_p0 0 1)) 2 rfl rfl (in_Sy _) 1 (by decide) (List.mem_cons_of_mem _ fl_Sy_21) rfl rfl d_Sy_isLessThan_5 ?_
  refine gd_icmp_eq X (tgt := 28) d_Sy_isLessThan_8 (by decide) (fun c_1 => ?_) (fun c_1 => ?_)
  · replace h := it_p c_1 h
    refine gd_aload_n X d_Sy_isLessThan_28 0 rfl ?_
    refine gd_aload_n X d_Sy_isLessThan_29 1 rfl ?_
    obtain ⟨r_2, hc_3, h⟩ := bd1_e h
    refine gd_fI X (gd_V X (As := [.ref (a_p0 0)]) (rest := []) (c_Sy_firstDifference l D K a_self a_p0 n_self n_p0 N s_self s_p0 r_2 hc_3) 1 (gi_V ml_Sy_33 u_Sy_firstDifference) rfl ⟨rfl, rfl⟩ (by decide +kernel) ⟨by decide, by decide⟩ (ci := 0) rfl rfl 0 rfl rfl rfl (Nat.le_of_ble_eq_true rfl) ⟨Nat.zero_le _, Nat.zero_le _⟩ d_Sy_isLessThan_30) rfl ?_
    refine gd_istore_n X (lv' := [(2, .int r_2), (0, .ref (a_self 0)), (1, .ref (a_p0 0))]) d_Sy_isLessThan_33 rfl (by decide) rfl ?_
    refine gd_iload_n X d_Sy_isLessThan_34 0 rfl ?_
    refine gd_aload_n X d_Sy_isLessThan_35 1 rfl ?_
    refine gd_get X (ci := 0) (C := R_Sy) (T := F_Sy) (N := 2) (v := .int (s_self 0 1)) 0 rfl rfl (in_Sy _) 1 (by decide) (List.mem_cons_of_mem _ fl_Sy_21) rfl rfl d_Sy_isLessThan_36 ?_
    refine gd_icmp_ge X (tgt := 59) d_Sy_isLessThan_39 (by decide) (fun c_4 => ?_) (fun c_4 => ?_)
    · replace h := it_p c_4 h
      refine gd_iconst X (v := 0) d_Sy_isLessThan_59 (by decide) ?_
      cases h
      exact gd_zret X hr hlk (by decide) d_Sy_isLessThan_60
    · replace h := it_n c_4 h
      refine gd_aload_n X d_Sy_isLessThan_42 1 rfl ?_
      refine gd_iload_n X d_Sy_isLessThan_43 0 rfl ?_
      obtain ⟨r_5, hc_6, h⟩ := bd1_e h
      refine gd_pI X (gd_V X (As := [.int r_2]) (rest := []) (c_Sy_at l D K a_self n_self s_self r_2 r_5 hc_6) 1 (gi_V ml_Sy_25 u_Sy_at) rfl ⟨rfl, rfl⟩ (by decide +kernel) ⟨by decide, by decide⟩ (ci := 0) rfl rfl 0 rfl rfl rfl (Nat.le_of_ble_eq_true rfl) ⟨Nat.zero_le _, Nat.zero_le _⟩ d_Sy_isLessThan_44) [0, 1] rfl rfl ?_
      refine gd_aload_n X d_Sy_isLessThan_47 2 rfl ?_
      refine gd_iload_n X d_Sy_isLessThan_48 0 rfl ?_
      obtain ⟨r_7, hc_8, h⟩ := bd1_e h
      refine gd_pI X (gd_V X (As := [.int r_2]) (rest := [.int r_5]) (c_Sy_at l D K a_p0 n_p0 s_p0 r_2 r_7 hc_8) 1 (gi_V ml_Sy_25 u_Sy_at) rfl ⟨rfl, rfl⟩ (by decide +kernel) ⟨by decide, by decide⟩ (ci := 0) rfl rfl 0 rfl rfl rfl (Nat.le_of_ble_eq_true rfl) ⟨Nat.zero_le _, Nat.zero_le _⟩ d_Sy_isLessThan_49) [2, 3] rfl rfl ?_
      refine gd_icmp_ge X (tgt := 59) d_Sy_isLessThan_52 (by decide) (fun c_9 => ?_) (fun c_9 => ?_)
      · replace h := it_p c_9 h
        refine gd_iconst X (v := 0) d_Sy_isLessThan_59 (by decide) ?_
        cases h
        exact gd_zret X hr hlk (by decide) d_Sy_isLessThan_60
      · replace h := it_n c_9 h
        refine gd_iconst X (v := 1) d_Sy_isLessThan_55 (by decide) ?_
        refine gd_goto X (tgt := 60) d_Sy_isLessThan_56 (by decide) ?_
        cases h
        exact gd_zret X hr hlk (by decide) d_Sy_isLessThan_60
  · replace h := it_n c_1 h
    refine gd_aload_n X d_Sy_isLessThan_11 0 rfl ?_
    refine gd_get X (ci := 0) (C := R_Sy) (T := F_Sy) (N := 2) (v := .int (s_self 0 1)) 0 rfl rfl (in_Sy _) 1 (by decide) (List.mem_cons_of_mem _ fl_Sy_21) rfl rfl d_Sy_isLessThan_12 ?_
    refine gd_aload_n X d_Sy_isLessThan_15 1 rfl ?_
    refine gd_get X (ci := 0) (C := R_Sy) (T := F_Sy) (N := 2) (v := .int (s_p0 0 1)) 2 rfl rfl (in_Sy _) 1 (by decide) (List.mem_cons_of_mem _ fl_Sy_21) rfl rfl d_Sy_isLessThan_16 ?_
    refine gd_icmp_ge X (tgt := 26) d_Sy_isLessThan_19 (by decide) (fun c_10 => ?_) (fun c_10 => ?_)
    · replace h := it_p c_10 h
      refine gd_iconst X (v := 0) d_Sy_isLessThan_26 (by decide) ?_
      cases h
      exact gd_zret X hr hlk (by decide) d_Sy_isLessThan_27
    · replace h := it_n c_10 h
      refine gd_iconst X (v := 1) d_Sy_isLessThan_22 (by decide) ?_
      refine gd_goto X (tgt := 27) d_Sy_isLessThan_23 (by decide) ?_
      cases h
      exact gd_zret X hr hlk (by decide) d_Sy_isLessThan_27
def m_Sy_isLessThan (N : Nat) (n_self : Nat) (n_p0 : Nat) (s_self s_p0 : Nat → Nat → Int32) : Option ((Int32)) := f_Sy_isLessThan_0 N n_self n_p0 s_self s_p0
set_option maxHeartbeats 4000000 in
set_option maxRecDepth 100000 in
theorem c_Sy_isLessThan (l : Launch) (D : va_G) (K : Nat → ClassId) (a_self a_p0 : Nat → Nat) (n_self : Nat) (n_p0 : Nat) (N : Nat) (s_self s_p0 : Nat → Nat → Int32) (r : Int32) (h : m_Sy_isLessThan N n_self n_p0 s_self s_p0 = some r) : SMet l y_Sy_isLessThan w_Sy_isLessThan rm_Sy_isLessThan D classes (tyK K) [.ref (a_self 0), .ref (a_p0 0)] (some (.int r)) (wd_Sy K a_self n_self s_self ++ (wd_Sy K a_p0 n_p0 s_p0)) (wd_Sy K a_self n_self s_self ++ (wd_Sy K a_p0 n_p0 s_p0)) := by
  refine sm_of R_Sy (by decide) rfl rfl (Nat.le_of_ble_eq_true rfl) ?_
  intro p e s m below meth c A X hr hlk
  refine gd_loc (lv' := [(0, .ref (a_self 0)), (1, .ref (a_p0 0))]) [0, 1] rfl ?_
  exact t_Sy_isLessThan_0 a_self a_p0 n_self n_p0 X hr hlk N r s_self s_p0 h
abbrev b_Gr_hasSort : ByteArray := prog_3_method_2_code
def y_Gr_hasSort : MethodName := ⟨R_Gr, "hasSort", "(I)Z"⟩
def w_Gr_hasSort : List Cond := .code y_Gr_hasSort b_Gr_hasSort 2 (some .boolean) :: TB
theorem k_Gr_hasSort : Cond.code y_Gr_hasSort b_Gr_hasSort 2 (some .boolean) ∈ TB := tb_of 308 (by decide +kernel) (by decide +kernel)
theorem d_Gr_hasSort_0 : decode b_Gr_hasSort 0 = .ok (.iload_n 1, 1) := by decide +kernel
theorem d_Gr_hasSort_1 : decode b_Gr_hasSort 1 = .ok (.ifCond .lt 15, 3) := by decide +kernel
theorem d_Gr_hasSort_4 : decode b_Gr_hasSort 4 = .ok (.iload_n 1, 1) := by decide +kernel
theorem d_Gr_hasSort_5 : decode b_Gr_hasSort 5 = .ok (.aload_n 0, 1) := by decide +kernel
theorem d_Gr_hasSort_6 : decode b_Gr_hasSort 6 = .ok (.getfield 33, 3) := by decide +kernel
theorem d_Gr_hasSort_9 : decode b_Gr_hasSort 9 = .ok (.if_icmp .ge 7, 3) := by decide +kernel
theorem d_Gr_hasSort_12 : decode b_Gr_hasSort 12 = .ok (.iconst 1, 1) := by decide +kernel
theorem d_Gr_hasSort_13 : decode b_Gr_hasSort 13 = .ok (.goto 4, 3) := by decide +kernel
theorem d_Gr_hasSort_16 : decode b_Gr_hasSort 16 = .ok (.iconst 0, 1) := by decide +kernel
theorem d_Gr_hasSort_17 : decode b_Gr_hasSort 17 = .ok (.ireturn, 1) := by decide +kernel
theorem fl_Gr_33 : Cond.fieldLink R_Gr 33 "RuleTrees$Grammar" "sorts" "I" ∈ TB := tb_of 86 (by decide +kernel) (by decide +kernel)
abbrev rm_Gr_hasSort : Room := { frames := 0, cells := 0, slots := 0, locals := 0 }
def f_Gr_hasSort_0 (s_self : Nat → Nat → Int32) (v1 : Int32) : Option ((Int32)) :=
  if v1 < 0 then
    some (0)
  else
    if (s_self 0 0) ≤ v1 then
      some (0)
    else
      some (1)
set_option maxHeartbeats 4000000 in
set_option maxRecDepth 100000 in
theorem t_Gr_hasSort_0 {p : Program} {l : Launch} {e : Env} {s : State} {m : MethodId} {args : Array Value} {below : List Frame} {meth : Method} {c : Code} {A : Nat → Prop} {D : va_G} {K : Nat → ClassId} (a_self : Nat → Nat) (X : gx p s m args c b_Gr_hasSort 2 R_Gr w_Gr_hasSort D classes (tyK K) A) (hr : meth.sig.returnType = some .boolean) (hlk : meth.locks = false) (r : Int32) (s_self : Nat → Nat → Int32) (v1 : Int32) (h : f_Gr_hasSort_0 s_self v1 = some r) : Gd p l e rm_Gr_hasSort s m args below meth c 0 0 (MQ below (sq D classes (tyK K) (some (.int r)) (wd_Gr K a_self s_self) A) args s 0 0 A) D classes A 2 0 (wd_Gr K a_self s_self) [(0, .ref (a_self 0)), (1, .int v1)] [] := by
  unfold f_Gr_hasSort_0 at h
  refine gd_iload_n X d_Gr_hasSort_0 1 rfl ?_
  refine gd_if_lt X (tgt := 16) d_Gr_hasSort_1 (by decide) (fun c_1 => ?_) (fun c_1 => ?_)
  · replace h := it_p c_1 h
    refine gd_iconst X (v := 0) d_Gr_hasSort_16 (by decide) ?_
    cases h
    exact gd_zret X hr hlk (by decide) d_Gr_hasSort_17
  · replace h := it_n c_1 h
    refine gd_iload_n X d_Gr_hasSort_4 1 rfl ?_
    refine gd_aload_n X d_Gr_hasSort_5 0 rfl ?_
    refine gd_get X (ci := 1) (C := R_Gr) (T := F_Gr) (N := 12) (v := .int (s_self 0 0)) 0 rfl rfl (in_Gr _) 0 (by decide) (List.mem_cons_of_mem _ fl_Gr_33) rfl rfl d_Gr_hasSort_6 ?_
    refine gd_icmp_ge X (tgt := 16) d_Gr_hasSort_9 (by decide) (fun c_2 => ?_) (fun c_2 => ?_)
    · replace h := it_p c_2 h
      refine gd_iconst X (v := 0) d_Gr_hasSort_16 (by decide) ?_
      cases h
      exact gd_zret X hr hlk (by decide) d_Gr_hasSort_17
    · replace h := it_n c_2 h
      refine gd_iconst X (v := 1) d_Gr_hasSort_12 (by decide) ?_
      refine gd_goto X (tgt := 17) d_Gr_hasSort_13 (by decide) ?_
      cases h
      exact gd_zret X hr hlk (by decide) d_Gr_hasSort_17
def m_Gr_hasSort (s_self : Nat → Nat → Int32) (v1 : Int32) : Option ((Int32)) := f_Gr_hasSort_0 s_self v1
set_option maxHeartbeats 4000000 in
set_option maxRecDepth 100000 in
theorem c_Gr_hasSort (l : Launch) (D : va_G) (K : Nat → ClassId) (a_self : Nat → Nat) (s_self : Nat → Nat → Int32) (v1 : Int32) (r : Int32) (h : m_Gr_hasSort s_self v1 = some r) : SMet l y_Gr_hasSort w_Gr_hasSort rm_Gr_hasSort D classes (tyK K) [.ref (a_self 0), .int v1] (some (.int r)) (wd_Gr K a_self s_self) (wd_Gr K a_self s_self) := by
  refine sm_of R_Gr (by decide) rfl rfl (Nat.le_of_ble_eq_true rfl) ?_
  intro p e s m below meth c A X hr hlk
  refine gd_loc (lv' := [(0, .ref (a_self 0)), (1, .int v1)]) [0, 1] rfl ?_
  exact t_Gr_hasSort_0 a_self X hr hlk r s_self v1 h
abbrev b_Gr_hasRule : ByteArray := prog_3_method_3_code
def y_Gr_hasRule : MethodName := ⟨R_Gr, "hasRule", "(I)Z"⟩
def w_Gr_hasRule : List Cond := .code y_Gr_hasRule b_Gr_hasRule 2 (some .boolean) :: TB
theorem k_Gr_hasRule : Cond.code y_Gr_hasRule b_Gr_hasRule 2 (some .boolean) ∈ TB := tb_of 386 (by decide +kernel) (by decide +kernel)
theorem d_Gr_hasRule_0 : decode b_Gr_hasRule 0 = .ok (.iload_n 1, 1) := by decide +kernel
theorem d_Gr_hasRule_1 : decode b_Gr_hasRule 1 = .ok (.ifCond .lt 15, 3) := by decide +kernel
theorem d_Gr_hasRule_4 : decode b_Gr_hasRule 4 = .ok (.iload_n 1, 1) := by decide +kernel
theorem d_Gr_hasRule_5 : decode b_Gr_hasRule 5 = .ok (.aload_n 0, 1) := by decide +kernel
theorem d_Gr_hasRule_6 : decode b_Gr_hasRule 6 = .ok (.getfield 37, 3) := by decide +kernel
theorem d_Gr_hasRule_9 : decode b_Gr_hasRule 9 = .ok (.if_icmp .ge 7, 3) := by decide +kernel
theorem d_Gr_hasRule_12 : decode b_Gr_hasRule 12 = .ok (.iconst 1, 1) := by decide +kernel
theorem d_Gr_hasRule_13 : decode b_Gr_hasRule 13 = .ok (.goto 4, 3) := by decide +kernel
theorem d_Gr_hasRule_16 : decode b_Gr_hasRule 16 = .ok (.iconst 0, 1) := by decide +kernel
theorem d_Gr_hasRule_17 : decode b_Gr_hasRule 17 = .ok (.ireturn, 1) := by decide +kernel
theorem fl_Gr_37 : Cond.fieldLink R_Gr 37 "RuleTrees$Grammar" "rules" "I" ∈ TB := tb_of 91 (by decide +kernel) (by decide +kernel)
abbrev rm_Gr_hasRule : Room := { frames := 0, cells := 0, slots := 0, locals := 0 }
def f_Gr_hasRule_0 (s_self : Nat → Nat → Int32) (v1 : Int32) : Option ((Int32)) :=
  if v1 < 0 then
    some (0)
  else
    if (s_self 0 2) ≤ v1 then
      some (0)
    else
      some (1)
set_option maxHeartbeats 4000000 in
set_option maxRecDepth 100000 in
theorem t_Gr_hasRule_0 {p : Program} {l : Launch} {e : Env} {s : State} {m : MethodId} {args : Array Value} {below : List Frame} {meth : Method} {c : Code} {A : Nat → Prop} {D : va_G} {K : Nat → ClassId} (a_self : Nat → Nat) (X : gx p s m args c b_Gr_hasRule 2 R_Gr w_Gr_hasRule D classes (tyK K) A) (hr : meth.sig.returnType = some .boolean) (hlk : meth.locks = false) (r : Int32) (s_self : Nat → Nat → Int32) (v1 : Int32) (h : f_Gr_hasRule_0 s_self v1 = some r) : Gd p l e rm_Gr_hasRule s m args below meth c 0 0 (MQ below (sq D classes (tyK K) (some (.int r)) (wd_Gr K a_self s_self) A) args s 0 0 A) D classes A 2 0 (wd_Gr K a_self s_self) [(0, .ref (a_self 0)), (1, .int v1)] [] := by
  unfold f_Gr_hasRule_0 at h
  refine gd_iload_n X d_Gr_hasRule_0 1 rfl ?_
  refine gd_if_lt X (tgt := 16) d_Gr_hasRule_1 (by decide) (fun c_1 => ?_) (fun c_1 => ?_)
  · replace h := it_p c_1 h
    refine gd_iconst X (v := 0) d_Gr_hasRule_16 (by decide) ?_
    cases h
    exact gd_zret X hr hlk (by decide) d_Gr_hasRule_17
  · replace h := it_n c_1 h
    refine gd_iload_n X d_Gr_hasRule_4 1 rfl ?_
    refine gd_aload_n X d_Gr_hasRule_5 0 rfl ?_
    refine gd_get X (ci := 1) (C := R_Gr) (T := F_Gr) (N := 12) (v := .int (s_self 0 2)) 0 rfl rfl (in_Gr _) 2 (by decide) (List.mem_cons_of_mem _ fl_Gr_37) rfl rfl d_Gr_hasRule_6 ?_
    refine gd_icmp_ge X (tgt := 16) d_Gr_hasRule_9 (by decide) (fun c_2 => ?_) (fun c_2 => ?_)
    · replace h := it_p c_2 h
      refine gd_iconst X (v := 0) d_Gr_hasRule_16 (by decide) ?_
      cases h
      exact gd_zret X hr hlk (by decide) d_Gr_hasRule_17
    · replace h := it_n c_2 h
      refine gd_iconst X (v := 1) d_Gr_hasRule_12 (by decide) ?_
      refine gd_goto X (tgt := 17) d_Gr_hasRule_13 (by decide) ?_
      cases h
      exact gd_zret X hr hlk (by decide) d_Gr_hasRule_17
def m_Gr_hasRule (s_self : Nat → Nat → Int32) (v1 : Int32) : Option ((Int32)) := f_Gr_hasRule_0 s_self v1
set_option maxHeartbeats 4000000 in
set_option maxRecDepth 100000 in
theorem c_Gr_hasRule (l : Launch) (D : va_G) (K : Nat → ClassId) (a_self : Nat → Nat) (s_self : Nat → Nat → Int32) (v1 : Int32) (r : Int32) (h : m_Gr_hasRule s_self v1 = some r) : SMet l y_Gr_hasRule w_Gr_hasRule rm_Gr_hasRule D classes (tyK K) [.ref (a_self 0), .int v1] (some (.int r)) (wd_Gr K a_self s_self) (wd_Gr K a_self s_self) := by
  refine sm_of R_Gr (by decide) rfl rfl (Nat.le_of_ble_eq_true rfl) ?_
  intro p e s m below meth c A X hr hlk
  refine gd_loc (lv' := [(0, .ref (a_self 0)), (1, .int v1)]) [0, 1] rfl ?_
  exact t_Gr_hasRule_0 a_self X hr hlk r s_self v1 h
abbrev b_Gr_hasSymbol : ByteArray := prog_3_method_4_code
def y_Gr_hasSymbol : MethodName := ⟨R_Gr, "hasSymbol", "(I)Z"⟩
def w_Gr_hasSymbol : List Cond := .code y_Gr_hasSymbol b_Gr_hasSymbol 2 (some .boolean) :: TB
theorem k_Gr_hasSymbol : Cond.code y_Gr_hasSymbol b_Gr_hasSymbol 2 (some .boolean) ∈ TB := tb_of 328 (by decide +kernel) (by decide +kernel)
theorem d_Gr_hasSymbol_0 : decode b_Gr_hasSymbol 0 = .ok (.iload_n 1, 1) := by decide +kernel
theorem d_Gr_hasSymbol_1 : decode b_Gr_hasSymbol 1 = .ok (.aload_n 0, 1) := by decide +kernel
theorem d_Gr_hasSymbol_2 : decode b_Gr_hasSymbol 2 = .ok (.getfield 40, 3) := by decide +kernel
theorem d_Gr_hasSymbol_5 : decode b_Gr_hasSymbol 5 = .ok (.ineg, 1) := by decide +kernel
theorem d_Gr_hasSymbol_6 : decode b_Gr_hasSymbol 6 = .ok (.if_icmp .lt 13, 3) := by decide +kernel
theorem d_Gr_hasSymbol_9 : decode b_Gr_hasSymbol 9 = .ok (.iload_n 1, 1) := by decide +kernel
theorem d_Gr_hasSymbol_10 : decode b_Gr_hasSymbol 10 = .ok (.bipush 30, 2) := by decide +kernel
theorem d_Gr_hasSymbol_12 : decode b_Gr_hasSymbol 12 = .ok (.if_icmp .ge 7, 3) := by decide +kernel
theorem d_Gr_hasSymbol_15 : decode b_Gr_hasSymbol 15 = .ok (.iconst 1, 1) := by decide +kernel
theorem d_Gr_hasSymbol_16 : decode b_Gr_hasSymbol 16 = .ok (.goto 4, 3) := by decide +kernel
theorem d_Gr_hasSymbol_19 : decode b_Gr_hasSymbol 19 = .ok (.iconst 0, 1) := by decide +kernel
theorem d_Gr_hasSymbol_20 : decode b_Gr_hasSymbol 20 = .ok (.ireturn, 1) := by decide +kernel
theorem fl_Gr_40 : Cond.fieldLink R_Gr 40 "RuleTrees$Grammar" "variables" "I" ∈ TB := tb_of 88 (by decide +kernel) (by decide +kernel)
abbrev rm_Gr_hasSymbol : Room := { frames := 0, cells := 0, slots := 0, locals := 0 }
def f_Gr_hasSymbol_0 (s_self : Nat → Nat → Int32) (v1 : Int32) : Option ((Int32)) :=
  if v1 < (-(s_self 0 1)) then
    some (0)
  else
    if 30 ≤ v1 then
      some (0)
    else
      some (1)
set_option maxHeartbeats 4000000 in
set_option maxRecDepth 100000 in
theorem t_Gr_hasSymbol_0 {p : Program} {l : Launch} {e : Env} {s : State} {m : MethodId} {args : Array Value} {below : List Frame} {meth : Method} {c : Code} {A : Nat → Prop} {D : va_G} {K : Nat → ClassId} (a_self : Nat → Nat) (X : gx p s m args c b_Gr_hasSymbol 2 R_Gr w_Gr_hasSymbol D classes (tyK K) A) (hr : meth.sig.returnType = some .boolean) (hlk : meth.locks = false) (r : Int32) (s_self : Nat → Nat → Int32) (v1 : Int32) (h : f_Gr_hasSymbol_0 s_self v1 = some r) : Gd p l e rm_Gr_hasSymbol s m args below meth c 0 0 (MQ below (sq D classes (tyK K) (some (.int r)) (wd_Gr K a_self s_self) A) args s 0 0 A) D classes A 2 0 (wd_Gr K a_self s_self) [(0, .ref (a_self 0)), (1, .int v1)] [] := by
  unfold f_Gr_hasSymbol_0 at h
  refine gd_iload_n X d_Gr_hasSymbol_0 1 rfl ?_
  refine gd_aload_n X d_Gr_hasSymbol_1 0 rfl ?_
  refine gd_get X (ci := 1) (C := R_Gr) (T := F_Gr) (N := 12) (v := .int (s_self 0 1)) 0 rfl rfl (in_Gr _) 1 (by decide) (List.mem_cons_of_mem _ fl_Gr_40) rfl rfl d_Gr_hasSymbol_2 ?_
  refine gd_ineg X d_Gr_hasSymbol_5 ?_
  refine gd_icmp_lt X (tgt := 19) d_Gr_hasSymbol_6 (by decide) (fun c_1 => ?_) (fun c_1 => ?_)
  · replace h := it_p c_1 h
    refine gd_iconst X (v := 0) d_Gr_hasSymbol_19 (by decide) ?_
    cases h
    exact gd_zret X hr hlk (by decide) d_Gr_hasSymbol_20
  · replace h := it_n c_1 h
    refine gd_iload_n X d_Gr_hasSymbol_9 1 rfl ?_
    refine gd_bipush X (v := 30) d_Gr_hasSymbol_10 (by decide) ?_
    refine gd_icmp_ge X (tgt := 19) d_Gr_hasSymbol_12 (by decide) (fun c_2 => ?_) (fun c_2 => ?_)
    · replace h := it_p c_2 h
      refine gd_iconst X (v := 0) d_Gr_hasSymbol_19 (by decide) ?_
      cases h
      exact gd_zret X hr hlk (by decide) d_Gr_hasSymbol_20
    · replace h := it_n c_2 h
      refine gd_iconst X (v := 1) d_Gr_hasSymbol_15 (by decide) ?_
      refine gd_goto X (tgt := 20) d_Gr_hasSymbol_16 (by decide) ?_
      cases h
      exact gd_zret X hr hlk (by decide) d_Gr_hasSymbol_20
def m_Gr_hasSymbol (s_self : Nat → Nat → Int32) (v1 : Int32) : Option ((Int32)) := f_Gr_hasSymbol_0 s_self v1
set_option maxHeartbeats 4000000 in
set_option maxRecDepth 100000 in
theorem c_Gr_hasSymbol (l : Launch) (D : va_G) (K : Nat → ClassId) (a_self : Nat → Nat) (s_self : Nat → Nat → Int32) (v1 : Int32) (r : Int32) (h : m_Gr_hasSymbol s_self v1 = some r) : SMet l y_Gr_hasSymbol w_Gr_hasSymbol rm_Gr_hasSymbol D classes (tyK K) [.ref (a_self 0), .int v1] (some (.int r)) (wd_Gr K a_self s_self) (wd_Gr K a_self s_self) := by
  refine sm_of R_Gr (by decide) rfl rfl (Nat.le_of_ble_eq_true rfl) ?_
  intro p e s m below meth c A X hr hlk
  refine gd_loc (lv' := [(0, .ref (a_self 0)), (1, .int v1)]) [0, 1] rfl ?_
  exact t_Gr_hasSymbol_0 a_self X hr hlk r s_self v1 h
abbrev b_Gr_hasCode : ByteArray := prog_3_method_5_code
def y_Gr_hasCode : MethodName := ⟨R_Gr, "hasCode", "(I)Z"⟩
def w_Gr_hasCode : List Cond := .code y_Gr_hasCode b_Gr_hasCode 2 (some .boolean) :: TB
theorem k_Gr_hasCode : Cond.code y_Gr_hasCode b_Gr_hasCode 2 (some .boolean) ∈ TB := tb_of 398 (by decide +kernel) (by decide +kernel)
theorem d_Gr_hasCode_0 : decode b_Gr_hasCode 0 = .ok (.iload_n 1, 1) := by decide +kernel
theorem d_Gr_hasCode_1 : decode b_Gr_hasCode 1 = .ok (.aload_n 0, 1) := by decide +kernel
theorem d_Gr_hasCode_2 : decode b_Gr_hasCode 2 = .ok (.getfield 40, 3) := by decide +kernel
theorem d_Gr_hasCode_5 : decode b_Gr_hasCode 5 = .ok (.ineg, 1) := by decide +kernel
theorem d_Gr_hasCode_6 : decode b_Gr_hasCode 6 = .ok (.if_icmp .lt 15, 3) := by decide +kernel
theorem d_Gr_hasCode_9 : decode b_Gr_hasCode 9 = .ok (.iload_n 1, 1) := by decide +kernel
theorem d_Gr_hasCode_10 : decode b_Gr_hasCode 10 = .ok (.aload_n 0, 1) := by decide +kernel
theorem d_Gr_hasCode_11 : decode b_Gr_hasCode 11 = .ok (.getfield 37, 3) := by decide +kernel
theorem d_Gr_hasCode_14 : decode b_Gr_hasCode 14 = .ok (.if_icmp .ge 7, 3) := by decide +kernel
theorem d_Gr_hasCode_17 : decode b_Gr_hasCode 17 = .ok (.iconst 1, 1) := by decide +kernel
theorem d_Gr_hasCode_18 : decode b_Gr_hasCode 18 = .ok (.goto 4, 3) := by decide +kernel
theorem d_Gr_hasCode_21 : decode b_Gr_hasCode 21 = .ok (.iconst 0, 1) := by decide +kernel
theorem d_Gr_hasCode_22 : decode b_Gr_hasCode 22 = .ok (.ireturn, 1) := by decide +kernel
abbrev rm_Gr_hasCode : Room := { frames := 0, cells := 0, slots := 0, locals := 0 }
def f_Gr_hasCode_0 (s_self : Nat → Nat → Int32) (v1 : Int32) : Option ((Int32)) :=
  if v1 < (-(s_self 0 1)) then
    some (0)
  else
    if (s_self 0 2) ≤ v1 then
      some (0)
    else
      some (1)
set_option maxHeartbeats 4000000 in
set_option maxRecDepth 100000 in
theorem t_Gr_hasCode_0 {p : Program} {l : Launch} {e : Env} {s : State} {m : MethodId} {args : Array Value} {below : List Frame} {meth : Method} {c : Code} {A : Nat → Prop} {D : va_G} {K : Nat → ClassId} (a_self : Nat → Nat) (X : gx p s m args c b_Gr_hasCode 2 R_Gr w_Gr_hasCode D classes (tyK K) A) (hr : meth.sig.returnType = some .boolean) (hlk : meth.locks = false) (r : Int32) (s_self : Nat → Nat → Int32) (v1 : Int32) (h : f_Gr_hasCode_0 s_self v1 = some r) : Gd p l e rm_Gr_hasCode s m args below meth c 0 0 (MQ below (sq D classes (tyK K) (some (.int r)) (wd_Gr K a_self s_self) A) args s 0 0 A) D classes A 2 0 (wd_Gr K a_self s_self) [(0, .ref (a_self 0)), (1, .int v1)] [] := by
  unfold f_Gr_hasCode_0 at h
  refine gd_iload_n X d_Gr_hasCode_0 1 rfl ?_
  refine gd_aload_n X d_Gr_hasCode_1 0 rfl ?_
  refine gd_get X (ci := 1) (C := R_Gr) (T := F_Gr) (N := 12) (v := .int (s_self 0 1)) 0 rfl rfl (in_Gr _) 1 (by decide) (List.mem_cons_of_mem _ fl_Gr_40) rfl rfl d_Gr_hasCode_2 ?_
  refine gd_ineg X d_Gr_hasCode_5 ?_
  refine gd_icmp_lt X (tgt := 21) d_Gr_hasCode_6 (by decide) (fun c_1 => ?_) (fun c_1 => ?_)
  · replace h := it_p c_1 h
    refine gd_iconst X (v := 0) d_Gr_hasCode_21 (by decide) ?_
    cases h
    exact gd_zret X hr hlk (by decide) d_Gr_hasCode_22
  · replace h := it_n c_1 h
    refine gd_iload_n X d_Gr_hasCode_9 1 rfl ?_
    refine gd_aload_n X d_Gr_hasCode_10 0 rfl ?_
    refine gd_get X (ci := 1) (C := R_Gr) (T := F_Gr) (N := 12) (v := .int (s_self 0 2)) 0 rfl rfl (in_Gr _) 2 (by decide) (List.mem_cons_of_mem _ fl_Gr_37) rfl rfl d_Gr_hasCode_11 ?_
    refine gd_icmp_ge X (tgt := 21) d_Gr_hasCode_14 (by decide) (fun c_2 => ?_) (fun c_2 => ?_)
    · replace h := it_p c_2 h
      refine gd_iconst X (v := 0) d_Gr_hasCode_21 (by decide) ?_
      cases h
      exact gd_zret X hr hlk (by decide) d_Gr_hasCode_22
    · replace h := it_n c_2 h
      refine gd_iconst X (v := 1) d_Gr_hasCode_17 (by decide) ?_
      refine gd_goto X (tgt := 22) d_Gr_hasCode_18 (by decide) ?_
      cases h
      exact gd_zret X hr hlk (by decide) d_Gr_hasCode_22
def m_Gr_hasCode (s_self : Nat → Nat → Int32) (v1 : Int32) : Option ((Int32)) := f_Gr_hasCode_0 s_self v1
set_option maxHeartbeats 4000000 in
set_option maxRecDepth 100000 in
theorem c_Gr_hasCode (l : Launch) (D : va_G) (K : Nat → ClassId) (a_self : Nat → Nat) (s_self : Nat → Nat → Int32) (v1 : Int32) (r : Int32) (h : m_Gr_hasCode s_self v1 = some r) : SMet l y_Gr_hasCode w_Gr_hasCode rm_Gr_hasCode D classes (tyK K) [.ref (a_self 0), .int v1] (some (.int r)) (wd_Gr K a_self s_self) (wd_Gr K a_self s_self) := by
  refine sm_of R_Gr (by decide) rfl rfl (Nat.le_of_ble_eq_true rfl) ?_
  intro p e s m below meth c A X hr hlk
  refine gd_loc (lv' := [(0, .ref (a_self 0)), (1, .int v1)]) [0, 1] rfl ?_
  exact t_Gr_hasCode_0 a_self X hr hlk r s_self v1 h
abbrev b_Gr_sortOfCode : ByteArray := prog_3_method_6_code
def y_Gr_sortOfCode : MethodName := ⟨R_Gr, "sortOfCode", "(I)I"⟩
def w_Gr_sortOfCode : List Cond := .code y_Gr_sortOfCode b_Gr_sortOfCode 2 (some .int) :: TB
theorem k_Gr_sortOfCode : Cond.code y_Gr_sortOfCode b_Gr_sortOfCode 2 (some .int) ∈ TB := tb_of 394 (by decide +kernel) (by decide +kernel)
theorem d_Gr_sortOfCode_0 : decode b_Gr_sortOfCode 0 = .ok (.aload_n 0, 1) := by decide +kernel
theorem d_Gr_sortOfCode_1 : decode b_Gr_sortOfCode 1 = .ok (.iload_n 1, 1) := by decide +kernel
theorem d_Gr_sortOfCode_2 : decode b_Gr_sortOfCode 2 = .ok (.invokevirtual 43, 3) := by decide +kernel
theorem d_Gr_sortOfCode_5 : decode b_Gr_sortOfCode 5 = .ok (.ifCond .ne 5, 3) := by decide +kernel
theorem d_Gr_sortOfCode_8 : decode b_Gr_sortOfCode 8 = .ok (.iconst (-1), 1) := by decide +kernel
theorem d_Gr_sortOfCode_9 : decode b_Gr_sortOfCode 9 = .ok (.ireturn, 1) := by decide +kernel
theorem d_Gr_sortOfCode_10 : decode b_Gr_sortOfCode 10 = .ok (.iload_n 1, 1) := by decide +kernel
theorem d_Gr_sortOfCode_11 : decode b_Gr_sortOfCode 11 = .ok (.ifCond .ge 14, 3) := by decide +kernel
theorem d_Gr_sortOfCode_14 : decode b_Gr_sortOfCode 14 = .ok (.aload_n 0, 1) := by decide +kernel
theorem d_Gr_sortOfCode_15 : decode b_Gr_sortOfCode 15 = .ok (.getfield 9, 3) := by decide +kernel
theorem d_Gr_sortOfCode_18 : decode b_Gr_sortOfCode 18 = .ok (.iconst (-1), 1) := by decide +kernel
theorem d_Gr_sortOfCode_19 : decode b_Gr_sortOfCode 19 = .ok (.iload_n 1, 1) := by decide +kernel
theorem d_Gr_sortOfCode_20 : decode b_Gr_sortOfCode 20 = .ok (.isub, 1) := by decide +kernel
theorem d_Gr_sortOfCode_21 : decode b_Gr_sortOfCode 21 = .ok (.iaload, 1) := by decide +kernel
theorem d_Gr_sortOfCode_22 : decode b_Gr_sortOfCode 22 = .ok (.goto 9, 3) := by decide +kernel
theorem d_Gr_sortOfCode_25 : decode b_Gr_sortOfCode 25 = .ok (.aload_n 0, 1) := by decide +kernel
theorem d_Gr_sortOfCode_26 : decode b_Gr_sortOfCode 26 = .ok (.getfield 15, 3) := by decide +kernel
theorem d_Gr_sortOfCode_29 : decode b_Gr_sortOfCode 29 = .ok (.iload_n 1, 1) := by decide +kernel
theorem d_Gr_sortOfCode_30 : decode b_Gr_sortOfCode 30 = .ok (.iaload, 1) := by decide +kernel
theorem d_Gr_sortOfCode_31 : decode b_Gr_sortOfCode 31 = .ok (.ireturn, 1) := by decide +kernel
theorem ml_Gr_43 : Cond.methodLink R_Gr 43 ⟨"RuleTrees$Grammar", "hasCode", "(I)Z"⟩ ∈ TB := tb_of 395 (by decide +kernel) (by decide +kernel)
theorem u_Gr_hasCode : (Cond.instanceMethod y_Gr_hasCode ∈ TB ∧ Cond.selects R_Gr y_Gr_hasCode y_Gr_hasCode ∈ TB) ∧ Cond.initialized R_Gr ∈ TB ∧ Cond.code y_Gr_hasCode b_Gr_hasCode 2 (some .boolean) ∈ TB := ⟨⟨(tb_of 396 (by decide +kernel) (by decide +kernel)), (tb_of 397 (by decide +kernel) (by decide +kernel))⟩, (tb_of 63 (by decide +kernel) (by decide +kernel)), k_Gr_hasCode⟩
theorem fl_Gr_15 : Cond.fieldLink R_Gr 15 "RuleTrees$Grammar" "ruleSort" "[I" ∈ TB := tb_of 97 (by decide +kernel) (by decide +kernel)
theorem fl_Gr_9 : Cond.fieldLink R_Gr 9 "RuleTrees$Grammar" "variableSort" "[I" ∈ TB := tb_of 96 (by decide +kernel) (by decide +kernel)
abbrev rm_Gr_sortOfCode : Room := { frames := 1, cells := 0, slots := 0, locals := 21 }
def f_Gr_sortOfCode_0 (s_self : Nat → Nat → Int32) (v1 : Int32) : Option ((Int32)) :=
  bd1 (m_Gr_hasCode s_self v1) fun r_1 =>
  if r_1 = 0 then
    some ((-1))
  else
    if 0 ≤ v1 then
      ck v1 30 <|
      some (s_self 2 (Int32.toNatClampNeg v1))
    else
      ck ((-1) - v1) 20 <|
      some (s_self 1 (Int32.toNatClampNeg ((-1) - v1)))
set_option maxHeartbeats 4000000 in
set_option maxRecDepth 100000 in
theorem t_Gr_sortOfCode_0 {p : Program} {l : Launch} {e : Env} {s : State} {m : MethodId} {args : Array Value} {below : List Frame} {meth : Method} {c : Code} {A : Nat → Prop} {D : va_G} {K : Nat → ClassId} (a_self : Nat → Nat) (X : gx p s m args c b_Gr_sortOfCode 2 R_Gr w_Gr_sortOfCode D classes (tyK K) A) (hr : meth.sig.returnType = some .int) (hlk : meth.locks = false) (r : Int32) (s_self : Nat → Nat → Int32) (v1 : Int32) (h : f_Gr_sortOfCode_0 s_self v1 = some r) : Gd p l e rm_Gr_sortOfCode s m args below meth c 0 0 (MQ below (sq D classes (tyK K) (some (.int r)) (wd_Gr K a_self s_self) A) args s 0 0 A) D classes A 2 0 (wd_Gr K a_self s_self) [(0, .ref (a_self 0)), (1, .int v1)] [] := by
  unfold f_Gr_sortOfCode_0 at h
  refine gd_aload_n X d_Gr_sortOfCode_0 0 rfl ?_
  refine gd_iload_n X d_Gr_sortOfCode_1 1 rfl ?_
  obtain ⟨r_1, hc_2, h⟩ := bd1_e h
  refine gd_fI X (gd_V X (As := [.int v1]) (rest := []) (c_Gr_hasCode l D K a_self s_self v1 r_1 hc_2) 1 (gi_V ml_Gr_43 u_Gr_hasCode) rfl ⟨rfl, rfl⟩ (by decide +kernel) ⟨by decide, by decide⟩ (ci := 1) rfl rfl 0 rfl rfl rfl (Nat.le_of_ble_eq_true rfl) ⟨Nat.zero_le _, Nat.zero_le _⟩ d_Gr_sortOfCode_2) rfl ?_
  refine gd_if_ne X (tgt := 10) d_Gr_sortOfCode_5 (by decide) (fun c_3 => ?_) (fun c_3 => ?_)
  · replace h := it_n c_3 h
    refine gd_iload_n X d_Gr_sortOfCode_10 1 rfl ?_
    refine gd_if_ge X (tgt := 25) d_Gr_sortOfCode_11 (by decide) (fun c_4 => ?_) (fun c_4 => ?_)
    · replace h := it_p c_4 h
      refine gd_aload_n X d_Gr_sortOfCode_25 0 rfl ?_
      refine gd_get X (ci := 1) (C := R_Gr) (T := F_Gr) (N := 12) (v := .ref (a_self 2)) 0 rfl rfl (in_Gr _) 6 (by decide) (List.mem_cons_of_mem _ fl_Gr_15) rfl rfl d_Gr_sortOfCode_26 ?_
      refine gd_iload_n X d_Gr_sortOfCode_29 1 rfl ?_
      obtain ⟨hi_5, h⟩ := ck_e h
      refine gd_iald X 2 0 rfl rfl hi_5 d_Gr_sortOfCode_30 ?_
      cases h
      exact gd_iret X hr hlk d_Gr_sortOfCode_31
    · replace h := it_n c_4 h
      refine gd_aload_n X d_Gr_sortOfCode_14 0 rfl ?_
      refine gd_get X (ci := 1) (C := R_Gr) (T := F_Gr) (N := 12) (v := .ref (a_self 1)) 0 rfl rfl (in_Gr _) 5 (by decide) (List.mem_cons_of_mem _ fl_Gr_9) rfl rfl d_Gr_sortOfCode_15 ?_
      refine gd_iconst X (v := (-1)) d_Gr_sortOfCode_18 (by decide) ?_
      refine gd_iload_n X d_Gr_sortOfCode_19 1 rfl ?_
      refine gd_isub X d_Gr_sortOfCode_20 ?_
      obtain ⟨hi_6, h⟩ := ck_e h
      refine gd_iald X 1 0 rfl rfl hi_6 d_Gr_sortOfCode_21 ?_
      refine gd_goto X (tgt := 31) d_Gr_sortOfCode_22 (by decide) ?_
      cases h
      exact gd_iret X hr hlk d_Gr_sortOfCode_31
  · replace h := it_p c_3 h
    refine gd_iconst X (v := (-1)) d_Gr_sortOfCode_8 (by decide) ?_
    cases h
    exact gd_iret X hr hlk d_Gr_sortOfCode_9
def m_Gr_sortOfCode (s_self : Nat → Nat → Int32) (v1 : Int32) : Option ((Int32)) := f_Gr_sortOfCode_0 s_self v1
set_option maxHeartbeats 4000000 in
set_option maxRecDepth 100000 in
theorem c_Gr_sortOfCode (l : Launch) (D : va_G) (K : Nat → ClassId) (a_self : Nat → Nat) (s_self : Nat → Nat → Int32) (v1 : Int32) (r : Int32) (h : m_Gr_sortOfCode s_self v1 = some r) : SMet l y_Gr_sortOfCode w_Gr_sortOfCode rm_Gr_sortOfCode D classes (tyK K) [.ref (a_self 0), .int v1] (some (.int r)) (wd_Gr K a_self s_self) (wd_Gr K a_self s_self) := by
  refine sm_of R_Gr (by decide) rfl rfl (Nat.le_of_ble_eq_true rfl) ?_
  intro p e s m below meth c A X hr hlk
  refine gd_loc (lv' := [(0, .ref (a_self 0)), (1, .int v1)]) [0, 1] rfl ?_
  exact t_Gr_sortOfCode_0 a_self X hr hlk r s_self v1 h
abbrev b_Gr_slotsOfCode : ByteArray := prog_3_method_7_code
def y_Gr_slotsOfCode : MethodName := ⟨R_Gr, "slotsOfCode", "(I)I"⟩
def w_Gr_slotsOfCode : List Cond := .code y_Gr_slotsOfCode b_Gr_slotsOfCode 2 (some .int) :: TB
theorem k_Gr_slotsOfCode : Cond.code y_Gr_slotsOfCode b_Gr_slotsOfCode 2 (some .int) ∈ TB := tb_of 390 (by decide +kernel) (by decide +kernel)
theorem d_Gr_slotsOfCode_0 : decode b_Gr_slotsOfCode 0 = .ok (.aload_n 0, 1) := by decide +kernel
theorem d_Gr_slotsOfCode_1 : decode b_Gr_slotsOfCode 1 = .ok (.iload_n 1, 1) := by decide +kernel
theorem d_Gr_slotsOfCode_2 : decode b_Gr_slotsOfCode 2 = .ok (.invokevirtual 47, 3) := by decide +kernel
theorem d_Gr_slotsOfCode_5 : decode b_Gr_slotsOfCode 5 = .ok (.ifCond .eq 12, 3) := by decide +kernel
theorem d_Gr_slotsOfCode_8 : decode b_Gr_slotsOfCode 8 = .ok (.aload_n 0, 1) := by decide +kernel
theorem d_Gr_slotsOfCode_9 : decode b_Gr_slotsOfCode 9 = .ok (.getfield 27, 3) := by decide +kernel
theorem d_Gr_slotsOfCode_12 : decode b_Gr_slotsOfCode 12 = .ok (.iload_n 1, 1) := by decide +kernel
theorem d_Gr_slotsOfCode_13 : decode b_Gr_slotsOfCode 13 = .ok (.iaload, 1) := by decide +kernel
theorem d_Gr_slotsOfCode_14 : decode b_Gr_slotsOfCode 14 = .ok (.goto 4, 3) := by decide +kernel
theorem d_Gr_slotsOfCode_17 : decode b_Gr_slotsOfCode 17 = .ok (.iconst 0, 1) := by decide +kernel
theorem d_Gr_slotsOfCode_18 : decode b_Gr_slotsOfCode 18 = .ok (.ireturn, 1) := by decide +kernel
theorem ml_Gr_47 : Cond.methodLink R_Gr 47 ⟨"RuleTrees$Grammar", "hasRule", "(I)Z"⟩ ∈ TB := tb_of 383 (by decide +kernel) (by decide +kernel)
theorem u_Gr_hasRule : (Cond.instanceMethod y_Gr_hasRule ∈ TB ∧ Cond.selects R_Gr y_Gr_hasRule y_Gr_hasRule ∈ TB) ∧ Cond.initialized R_Gr ∈ TB ∧ Cond.code y_Gr_hasRule b_Gr_hasRule 2 (some .boolean) ∈ TB := ⟨⟨(tb_of 384 (by decide +kernel) (by decide +kernel)), (tb_of 385 (by decide +kernel) (by decide +kernel))⟩, (tb_of 63 (by decide +kernel) (by decide +kernel)), k_Gr_hasRule⟩
theorem fl_Gr_27 : Cond.fieldLink R_Gr 27 "RuleTrees$Grammar" "slotCount" "[I" ∈ TB := tb_of 101 (by decide +kernel) (by decide +kernel)
abbrev rm_Gr_slotsOfCode : Room := { frames := 1, cells := 0, slots := 0, locals := 21 }
def f_Gr_slotsOfCode_0 (s_self : Nat → Nat → Int32) (v1 : Int32) : Option ((Int32)) :=
  bd1 (m_Gr_hasRule s_self v1) fun r_1 =>
  if r_1 = 0 then
    some (0)
  else
    ck v1 30 <|
    some (s_self 6 (Int32.toNatClampNeg v1))
set_option maxHeartbeats 4000000 in
set_option maxRecDepth 100000 in
theorem t_Gr_slotsOfCode_0 {p : Program} {l : Launch} {e : Env} {s : State} {m : MethodId} {args : Array Value} {below : List Frame} {meth : Method} {c : Code} {A : Nat → Prop} {D : va_G} {K : Nat → ClassId} (a_self : Nat → Nat) (X : gx p s m args c b_Gr_slotsOfCode 2 R_Gr w_Gr_slotsOfCode D classes (tyK K) A) (hr : meth.sig.returnType = some .int) (hlk : meth.locks = false) (r : Int32) (s_self : Nat → Nat → Int32) (v1 : Int32) (h : f_Gr_slotsOfCode_0 s_self v1 = some r) : Gd p l e rm_Gr_slotsOfCode s m args below meth c 0 0 (MQ below (sq D classes (tyK K) (some (.int r)) (wd_Gr K a_self s_self) A) args s 0 0 A) D classes A 2 0 (wd_Gr K a_self s_self) [(0, .ref (a_self 0)), (1, .int v1)] [] := by
  unfold f_Gr_slotsOfCode_0 at h
  refine gd_aload_n X d_Gr_slotsOfCode_0 0 rfl ?_
  refine gd_iload_n X d_Gr_slotsOfCode_1 1 rfl ?_
  obtain ⟨r_1, hc_2, h⟩ := bd1_e h
  refine gd_fI X (gd_V X (As := [.int v1]) (rest := []) (c_Gr_hasRule l D K a_self s_self v1 r_1 hc_2) 1 (gi_V ml_Gr_47 u_Gr_hasRule) rfl ⟨rfl, rfl⟩ (by decide +kernel) ⟨by decide, by decide⟩ (ci := 1) rfl rfl 0 rfl rfl rfl (Nat.le_of_ble_eq_true rfl) ⟨Nat.zero_le _, Nat.zero_le _⟩ d_Gr_slotsOfCode_2) rfl ?_
  refine gd_if_eq X (tgt := 17) d_Gr_slotsOfCode_5 (by decide) (fun c_3 => ?_) (fun c_3 => ?_)
  · replace h := it_p c_3 h
    refine gd_iconst X (v := 0) d_Gr_slotsOfCode_17 (by decide) ?_
    cases h
    exact gd_iret X hr hlk d_Gr_slotsOfCode_18
  · replace h := it_n c_3 h
    refine gd_aload_n X d_Gr_slotsOfCode_8 0 rfl ?_
    refine gd_get X (ci := 1) (C := R_Gr) (T := F_Gr) (N := 12) (v := .ref (a_self 6)) 0 rfl rfl (in_Gr _) 10 (by decide) (List.mem_cons_of_mem _ fl_Gr_27) rfl rfl d_Gr_slotsOfCode_9 ?_
    refine gd_iload_n X d_Gr_slotsOfCode_12 1 rfl ?_
    obtain ⟨hi_4, h⟩ := ck_e h
    refine gd_iald X 6 0 rfl rfl hi_4 d_Gr_slotsOfCode_13 ?_
    refine gd_goto X (tgt := 18) d_Gr_slotsOfCode_14 (by decide) ?_
    cases h
    exact gd_iret X hr hlk d_Gr_slotsOfCode_18
def m_Gr_slotsOfCode (s_self : Nat → Nat → Int32) (v1 : Int32) : Option ((Int32)) := f_Gr_slotsOfCode_0 s_self v1
set_option maxHeartbeats 4000000 in
set_option maxRecDepth 100000 in
theorem c_Gr_slotsOfCode (l : Launch) (D : va_G) (K : Nat → ClassId) (a_self : Nat → Nat) (s_self : Nat → Nat → Int32) (v1 : Int32) (r : Int32) (h : m_Gr_slotsOfCode s_self v1 = some r) : SMet l y_Gr_slotsOfCode w_Gr_slotsOfCode rm_Gr_slotsOfCode D classes (tyK K) [.ref (a_self 0), .int v1] (some (.int r)) (wd_Gr K a_self s_self) (wd_Gr K a_self s_self) := by
  refine sm_of R_Gr (by decide) rfl rfl (Nat.le_of_ble_eq_true rfl) ?_
  intro p e s m below meth c A X hr hlk
  refine gd_loc (lv' := [(0, .ref (a_self 0)), (1, .int v1)]) [0, 1] rfl ?_
  exact t_Gr_slotsOfCode_0 a_self X hr hlk r s_self v1 h
abbrev b_Gr_lengthOfRule : ByteArray := prog_3_method_8_code
def y_Gr_lengthOfRule : MethodName := ⟨R_Gr, "lengthOfRule", "(I)I"⟩
def w_Gr_lengthOfRule : List Cond := .code y_Gr_lengthOfRule b_Gr_lengthOfRule 2 (some .int) :: TB
theorem k_Gr_lengthOfRule : Cond.code y_Gr_lengthOfRule b_Gr_lengthOfRule 2 (some .int) ∈ TB := tb_of 382 (by decide +kernel) (by decide +kernel)
theorem d_Gr_lengthOfRule_0 : decode b_Gr_lengthOfRule 0 = .ok (.aload_n 0, 1) := by decide +kernel
theorem d_Gr_lengthOfRule_1 : decode b_Gr_lengthOfRule 1 = .ok (.iload_n 1, 1) := by decide +kernel
theorem d_Gr_lengthOfRule_2 : decode b_Gr_lengthOfRule 2 = .ok (.invokevirtual 47, 3) := by decide +kernel
theorem d_Gr_lengthOfRule_5 : decode b_Gr_lengthOfRule 5 = .ok (.ifCond .eq 12, 3) := by decide +kernel
theorem d_Gr_lengthOfRule_8 : decode b_Gr_lengthOfRule 8 = .ok (.aload_n 0, 1) := by decide +kernel
theorem d_Gr_lengthOfRule_9 : decode b_Gr_lengthOfRule 9 = .ok (.getfield 18, 3) := by decide +kernel
theorem d_Gr_lengthOfRule_12 : decode b_Gr_lengthOfRule 12 = .ok (.iload_n 1, 1) := by decide +kernel
theorem d_Gr_lengthOfRule_13 : decode b_Gr_lengthOfRule 13 = .ok (.iaload, 1) := by decide +kernel
theorem d_Gr_lengthOfRule_14 : decode b_Gr_lengthOfRule 14 = .ok (.goto 4, 3) := by decide +kernel
theorem d_Gr_lengthOfRule_17 : decode b_Gr_lengthOfRule 17 = .ok (.iconst 0, 1) := by decide +kernel
theorem d_Gr_lengthOfRule_18 : decode b_Gr_lengthOfRule 18 = .ok (.ireturn, 1) := by decide +kernel
theorem fl_Gr_18 : Cond.fieldLink R_Gr 18 "RuleTrees$Grammar" "ruleLength" "[I" ∈ TB := tb_of 98 (by decide +kernel) (by decide +kernel)
abbrev rm_Gr_lengthOfRule : Room := { frames := 1, cells := 0, slots := 0, locals := 21 }
def f_Gr_lengthOfRule_0 (s_self : Nat → Nat → Int32) (v1 : Int32) : Option ((Int32)) :=
  bd1 (m_Gr_hasRule s_self v1) fun r_1 =>
  if r_1 = 0 then
    some (0)
  else
    ck v1 30 <|
    some (s_self 3 (Int32.toNatClampNeg v1))
set_option maxHeartbeats 4000000 in
set_option maxRecDepth 100000 in
theorem t_Gr_lengthOfRule_0 {p : Program} {l : Launch} {e : Env} {s : State} {m : MethodId} {args : Array Value} {below : List Frame} {meth : Method} {c : Code} {A : Nat → Prop} {D : va_G} {K : Nat → ClassId} (a_self : Nat → Nat) (X : gx p s m args c b_Gr_lengthOfRule 2 R_Gr w_Gr_lengthOfRule D classes (tyK K) A) (hr : meth.sig.returnType = some .int) (hlk : meth.locks = false) (r : Int32) (s_self : Nat → Nat → Int32) (v1 : Int32) (h : f_Gr_lengthOfRule_0 s_self v1 = some r) : Gd p l e rm_Gr_lengthOfRule s m args below meth c 0 0 (MQ below (sq D classes (tyK K) (some (.int r)) (wd_Gr K a_self s_self) A) args s 0 0 A) D classes A 2 0 (wd_Gr K a_self s_self) [(0, .ref (a_self 0)), (1, .int v1)] [] := by
  unfold f_Gr_lengthOfRule_0 at h
  refine gd_aload_n X d_Gr_lengthOfRule_0 0 rfl ?_
  refine gd_iload_n X d_Gr_lengthOfRule_1 1 rfl ?_
  obtain ⟨r_1, hc_2, h⟩ := bd1_e h
  refine gd_fI X (gd_V X (As := [.int v1]) (rest := []) (c_Gr_hasRule l D K a_self s_self v1 r_1 hc_2) 1 (gi_V ml_Gr_47 u_Gr_hasRule) rfl ⟨rfl, rfl⟩ (by decide +kernel) ⟨by decide, by decide⟩ (ci := 1) rfl rfl 0 rfl rfl rfl (Nat.le_of_ble_eq_true rfl) ⟨Nat.zero_le _, Nat.zero_le _⟩ d_Gr_lengthOfRule_2) rfl ?_
  refine gd_if_eq X (tgt := 17) d_Gr_lengthOfRule_5 (by decide) (fun c_3 => ?_) (fun c_3 => ?_)
  · replace h := it_p c_3 h
    refine gd_iconst X (v := 0) d_Gr_lengthOfRule_17 (by decide) ?_
    cases h
    exact gd_iret X hr hlk d_Gr_lengthOfRule_18
  · replace h := it_n c_3 h
    refine gd_aload_n X d_Gr_lengthOfRule_8 0 rfl ?_
    refine gd_get X (ci := 1) (C := R_Gr) (T := F_Gr) (N := 12) (v := .ref (a_self 3)) 0 rfl rfl (in_Gr _) 7 (by decide) (List.mem_cons_of_mem _ fl_Gr_18) rfl rfl d_Gr_lengthOfRule_9 ?_
    refine gd_iload_n X d_Gr_lengthOfRule_12 1 rfl ?_
    obtain ⟨hi_4, h⟩ := ck_e h
    refine gd_iald X 3 0 rfl rfl hi_4 d_Gr_lengthOfRule_13 ?_
    refine gd_goto X (tgt := 18) d_Gr_lengthOfRule_14 (by decide) ?_
    cases h
    exact gd_iret X hr hlk d_Gr_lengthOfRule_18
def m_Gr_lengthOfRule (s_self : Nat → Nat → Int32) (v1 : Int32) : Option ((Int32)) := f_Gr_lengthOfRule_0 s_self v1
set_option maxHeartbeats 4000000 in
set_option maxRecDepth 100000 in
theorem c_Gr_lengthOfRule (l : Launch) (D : va_G) (K : Nat → ClassId) (a_self : Nat → Nat) (s_self : Nat → Nat → Int32) (v1 : Int32) (r : Int32) (h : m_Gr_lengthOfRule s_self v1 = some r) : SMet l y_Gr_lengthOfRule w_Gr_lengthOfRule rm_Gr_lengthOfRule D classes (tyK K) [.ref (a_self 0), .int v1] (some (.int r)) (wd_Gr K a_self s_self) (wd_Gr K a_self s_self) := by
  refine sm_of R_Gr (by decide) rfl rfl (Nat.le_of_ble_eq_true rfl) ?_
  intro p e s m below meth c A X hr hlk
  refine gd_loc (lv' := [(0, .ref (a_self 0)), (1, .int v1)]) [0, 1] rfl ?_
  exact t_Gr_lengthOfRule_0 a_self X hr hlk r s_self v1 h
abbrev b_Gr_symbolAt : ByteArray := prog_3_method_9_code
def y_Gr_symbolAt : MethodName := ⟨R_Gr, "symbolAt", "(II)I"⟩
def w_Gr_symbolAt : List Cond := .code y_Gr_symbolAt b_Gr_symbolAt 3 (some .int) :: TB
theorem k_Gr_symbolAt : Cond.code y_Gr_symbolAt b_Gr_symbolAt 3 (some .int) ∈ TB := tb_of 519 (by decide +kernel) (by decide +kernel)
theorem d_Gr_symbolAt_0 : decode b_Gr_symbolAt 0 = .ok (.aload_n 0, 1) := by decide +kernel
theorem d_Gr_symbolAt_1 : decode b_Gr_symbolAt 1 = .ok (.iload_n 1, 1) := by decide +kernel
theorem d_Gr_symbolAt_2 : decode b_Gr_symbolAt 2 = .ok (.invokevirtual 47, 3) := by decide +kernel
theorem d_Gr_symbolAt_5 : decode b_Gr_symbolAt 5 = .ok (.ifCond .eq 31, 3) := by decide +kernel
theorem d_Gr_symbolAt_8 : decode b_Gr_symbolAt 8 = .ok (.iload_n 2, 1) := by decide +kernel
theorem d_Gr_symbolAt_9 : decode b_Gr_symbolAt 9 = .ok (.ifCond .lt 27, 3) := by decide +kernel
theorem d_Gr_symbolAt_12 : decode b_Gr_symbolAt 12 = .ok (.iload_n 2, 1) := by decide +kernel
theorem d_Gr_symbolAt_13 : decode b_Gr_symbolAt 13 = .ok (.aload_n 0, 1) := by decide +kernel
theorem d_Gr_symbolAt_14 : decode b_Gr_symbolAt 14 = .ok (.getfield 18, 3) := by decide +kernel
theorem d_Gr_symbolAt_17 : decode b_Gr_symbolAt 17 = .ok (.iload_n 1, 1) := by decide +kernel
theorem d_Gr_symbolAt_18 : decode b_Gr_symbolAt 18 = .ok (.iaload, 1) := by decide +kernel
theorem d_Gr_symbolAt_19 : decode b_Gr_symbolAt 19 = .ok (.if_icmp .ge 17, 3) := by decide +kernel
theorem d_Gr_symbolAt_22 : decode b_Gr_symbolAt 22 = .ok (.aload_n 0, 1) := by decide +kernel
theorem d_Gr_symbolAt_23 : decode b_Gr_symbolAt 23 = .ok (.getfield 21, 3) := by decide +kernel
theorem d_Gr_symbolAt_26 : decode b_Gr_symbolAt 26 = .ok (.iload_n 1, 1) := by decide +kernel
theorem d_Gr_symbolAt_27 : decode b_Gr_symbolAt 27 = .ok (.bipush 8, 2) := by decide +kernel
theorem d_Gr_symbolAt_29 : decode b_Gr_symbolAt 29 = .ok (.imul, 1) := by decide +kernel
theorem d_Gr_symbolAt_30 : decode b_Gr_symbolAt 30 = .ok (.iload_n 2, 1) := by decide +kernel
theorem d_Gr_symbolAt_31 : decode b_Gr_symbolAt 31 = .ok (.iadd, 1) := by decide +kernel
theorem d_Gr_symbolAt_32 : decode b_Gr_symbolAt 32 = .ok (.iaload, 1) := by decide +kernel
theorem d_Gr_symbolAt_33 : decode b_Gr_symbolAt 33 = .ok (.goto 6, 3) := by decide +kernel
theorem d_Gr_symbolAt_36 : decode b_Gr_symbolAt 36 = .ok (.sipush (-1000), 3) := by decide +kernel
theorem d_Gr_symbolAt_39 : decode b_Gr_symbolAt 39 = .ok (.ireturn, 1) := by decide +kernel
theorem fl_Gr_21 : Cond.fieldLink R_Gr 21 "RuleTrees$Grammar" "ruleSymbols" "[I" ∈ TB := tb_of 99 (by decide +kernel) (by decide +kernel)
abbrev rm_Gr_symbolAt : Room := { frames := 1, cells := 0, slots := 0, locals := 21 }
def f_Gr_symbolAt_0 (s_self : Nat → Nat → Int32) (v1 v2 : Int32) : Option ((Int32)) :=
  bd1 (m_Gr_hasRule s_self v1) fun r_1 =>
  if r_1 = 0 then
    some ((-1000))
  else
    if v2 < 0 then
      some ((-1000))
    else
      ck v1 30 <|
      if (s_self 3 (Int32.toNatClampNeg v1)) ≤ v2 then
        some ((-1000))
      else
        ck ((v1 * 8) + v2) 240 <|
        some (s_self 4 (Int32.toNatClampNeg ((v1 * 8) + v2)))
set_option maxHeartbeats 4000000 in
set_option maxRecDepth 100000 in
theorem t_Gr_symbolAt_0 {p : Program} {l : Launch} {e : Env} {s : State} {m : MethodId} {args : Array Value} {below : List Frame} {meth : Method} {c : Code} {A : Nat → Prop} {D : va_G} {K : Nat → ClassId} (a_self : Nat → Nat) (X : gx p s m args c b_Gr_symbolAt 3 R_Gr w_Gr_symbolAt D classes (tyK K) A) (hr : meth.sig.returnType = some .int) (hlk : meth.locks = false) (r : Int32) (s_self : Nat → Nat → Int32) (v1 v2 : Int32) (h : f_Gr_symbolAt_0 s_self v1 v2 = some r) : Gd p l e rm_Gr_symbolAt s m args below meth c 0 0 (MQ below (sq D classes (tyK K) (some (.int r)) (wd_Gr K a_self s_self) A) args s 0 0 A) D classes A 3 0 (wd_Gr K a_self s_self) [(0, .ref (a_self 0)), (1, .int v1), (2, .int v2)] [] := by
  unfold f_Gr_symbolAt_0 at h
  refine gd_aload_n X d_Gr_symbolAt_0 0 rfl ?_
  refine gd_iload_n X d_Gr_symbolAt_1 1 rfl ?_
  obtain ⟨r_1, hc_2, h⟩ := bd1_e h
  refine gd_fI X (gd_V X (As := [.int v1]) (rest := []) (c_Gr_hasRule l D K a_self s_self v1 r_1 hc_2) 1 (gi_V ml_Gr_47 u_Gr_hasRule) rfl ⟨rfl, rfl⟩ (by decide +kernel) ⟨by decide, by decide⟩ (ci := 1) rfl rfl 0 rfl rfl rfl (Nat.le_of_ble_eq_true rfl) ⟨Nat.zero_le _, Nat.zero_le _⟩ d_Gr_symbolAt_2) rfl ?_
  refine gd_if_eq X (tgt := 36) d_Gr_symbolAt_5 (by decide) (fun c_3 => ?_) (fun c_3 => ?_)
  · replace h := it_p c_3 h
    refine gd_sipush X (v := (-1000)) d_Gr_symbolAt_36 (by decide) ?_
    cases h
    exact gd_iret X hr hlk d_Gr_symbolAt_39
  · replace h := it_n c_3 h
    refine gd_iload_n X d_Gr_symbolAt_8 2 rfl ?_
    refine gd_if_lt X (tgt := 36) d_Gr_symbolAt_9 (by decide) (fun c_4 => ?_) (fun c_4 => ?_)
    · replace h := it_p c_4 h
      refine gd_sipush X (v := (-1000)) d_Gr_symbolAt_36 (by decide) ?_
      cases h
      exact gd_iret X hr hlk d_Gr_symbolAt_39
    · replace h := it_n c_4 h
      refine gd_iload_n X d_Gr_symbolAt_12 2 rfl ?_
      refine gd_aload_n X d_Gr_symbolAt_13 0 rfl ?_
      refine gd_get X (ci := 1) (C := R_Gr) (T := F_Gr) (N := 12) (v := .ref (a_self 3)) 0 rfl rfl (in_Gr _) 7 (by decide) (List.mem_cons_of_mem _ fl_Gr_18) rfl rfl d_Gr_symbolAt_14 ?_
      refine gd_iload_n X d_Gr_symbolAt_17 1 rfl ?_
      obtain ⟨hi_5, h⟩ := ck_e h
      refine gd_iald X 3 0 rfl rfl hi_5 d_Gr_symbolAt_18 ?_
      refine gd_icmp_ge X (tgt := 36) d_Gr_symbolAt_19 (by decide) (fun c_6 => ?_) (fun c_6 => ?_)
      · replace h := it_p c_6 h
        refine gd_sipush X (v := (-1000)) d_Gr_symbolAt_36 (by decide) ?_
        cases h
        exact gd_iret X hr hlk d_Gr_symbolAt_39
      · replace h := it_n c_6 h
        refine gd_aload_n X d_Gr_symbolAt_22 0 rfl ?_
        refine gd_get X (ci := 1) (C := R_Gr) (T := F_Gr) (N := 12) (v := .ref (a_self 4)) 0 rfl rfl (in_Gr _) 8 (by decide) (List.mem_cons_of_mem _ fl_Gr_21) rfl rfl d_Gr_symbolAt_23 ?_
        refine gd_iload_n X d_Gr_symbolAt_26 1 rfl ?_
        refine gd_bipush X (v := 8) d_Gr_symbolAt_27 (by decide) ?_
        refine gd_imul X d_Gr_symbolAt_29 ?_
        refine gd_iload_n X d_Gr_symbolAt_30 2 rfl ?_
        refine gd_iadd X d_Gr_symbolAt_31 ?_
        obtain ⟨hi_7, h⟩ := ck_e h
        refine gd_iald X 4 0 rfl rfl hi_7 d_Gr_symbolAt_32 ?_
        refine gd_goto X (tgt := 39) d_Gr_symbolAt_33 (by decide) ?_
        cases h
        exact gd_iret X hr hlk d_Gr_symbolAt_39
def m_Gr_symbolAt (s_self : Nat → Nat → Int32) (v1 v2 : Int32) : Option ((Int32)) := f_Gr_symbolAt_0 s_self v1 v2
set_option maxHeartbeats 4000000 in
set_option maxRecDepth 100000 in
theorem c_Gr_symbolAt (l : Launch) (D : va_G) (K : Nat → ClassId) (a_self : Nat → Nat) (s_self : Nat → Nat → Int32) (v1 v2 : Int32) (r : Int32) (h : m_Gr_symbolAt s_self v1 v2 = some r) : SMet l y_Gr_symbolAt w_Gr_symbolAt rm_Gr_symbolAt D classes (tyK K) [.ref (a_self 0), .int v1, .int v2] (some (.int r)) (wd_Gr K a_self s_self) (wd_Gr K a_self s_self) := by
  refine sm_of R_Gr (by decide) rfl rfl (Nat.le_of_ble_eq_true rfl) ?_
  intro p e s m below meth c A X hr hlk
  refine gd_loc (lv' := [(0, .ref (a_self 0)), (1, .int v1), (2, .int v2)]) [0, 1, 2] rfl ?_
  exact t_Gr_symbolAt_0 a_self X hr hlk r s_self v1 v2 h
abbrev b_Gr_slotAt : ByteArray := prog_3_method_10_code
def y_Gr_slotAt : MethodName := ⟨R_Gr, "slotAt", "(II)I"⟩
def w_Gr_slotAt : List Cond := .code y_Gr_slotAt b_Gr_slotAt 3 (some .int) :: TB
theorem k_Gr_slotAt : Cond.code y_Gr_slotAt b_Gr_slotAt 3 (some .int) ∈ TB := tb_of 515 (by decide +kernel) (by decide +kernel)
theorem d_Gr_slotAt_0 : decode b_Gr_slotAt 0 = .ok (.aload_n 0, 1) := by decide +kernel
theorem d_Gr_slotAt_1 : decode b_Gr_slotAt 1 = .ok (.iload_n 1, 1) := by decide +kernel
theorem d_Gr_slotAt_2 : decode b_Gr_slotAt 2 = .ok (.invokevirtual 47, 3) := by decide +kernel
theorem d_Gr_slotAt_5 : decode b_Gr_slotAt 5 = .ok (.ifCond .eq 31, 3) := by decide +kernel
theorem d_Gr_slotAt_8 : decode b_Gr_slotAt 8 = .ok (.iload_n 2, 1) := by decide +kernel
theorem d_Gr_slotAt_9 : decode b_Gr_slotAt 9 = .ok (.ifCond .lt 27, 3) := by decide +kernel
theorem d_Gr_slotAt_12 : decode b_Gr_slotAt 12 = .ok (.iload_n 2, 1) := by decide +kernel
theorem d_Gr_slotAt_13 : decode b_Gr_slotAt 13 = .ok (.aload_n 0, 1) := by decide +kernel
theorem d_Gr_slotAt_14 : decode b_Gr_slotAt 14 = .ok (.getfield 18, 3) := by decide +kernel
theorem d_Gr_slotAt_17 : decode b_Gr_slotAt 17 = .ok (.iload_n 1, 1) := by decide +kernel
theorem d_Gr_slotAt_18 : decode b_Gr_slotAt 18 = .ok (.iaload, 1) := by decide +kernel
theorem d_Gr_slotAt_19 : decode b_Gr_slotAt 19 = .ok (.if_icmp .ge 17, 3) := by decide +kernel
theorem d_Gr_slotAt_22 : decode b_Gr_slotAt 22 = .ok (.aload_n 0, 1) := by decide +kernel
theorem d_Gr_slotAt_23 : decode b_Gr_slotAt 23 = .ok (.getfield 24, 3) := by decide +kernel
theorem d_Gr_slotAt_26 : decode b_Gr_slotAt 26 = .ok (.iload_n 1, 1) := by decide +kernel
theorem d_Gr_slotAt_27 : decode b_Gr_slotAt 27 = .ok (.bipush 8, 2) := by decide +kernel
theorem d_Gr_slotAt_29 : decode b_Gr_slotAt 29 = .ok (.imul, 1) := by decide +kernel
theorem d_Gr_slotAt_30 : decode b_Gr_slotAt 30 = .ok (.iload_n 2, 1) := by decide +kernel
theorem d_Gr_slotAt_31 : decode b_Gr_slotAt 31 = .ok (.iadd, 1) := by decide +kernel
theorem d_Gr_slotAt_32 : decode b_Gr_slotAt 32 = .ok (.iaload, 1) := by decide +kernel
theorem d_Gr_slotAt_33 : decode b_Gr_slotAt 33 = .ok (.goto 4, 3) := by decide +kernel
theorem d_Gr_slotAt_36 : decode b_Gr_slotAt 36 = .ok (.iconst (-1), 1) := by decide +kernel
theorem d_Gr_slotAt_37 : decode b_Gr_slotAt 37 = .ok (.ireturn, 1) := by decide +kernel
theorem fl_Gr_24 : Cond.fieldLink R_Gr 24 "RuleTrees$Grammar" "symbolSlot" "[I" ∈ TB := tb_of 100 (by decide +kernel) (by decide +kernel)
abbrev rm_Gr_slotAt : Room := { frames := 1, cells := 0, slots := 0, locals := 21 }
def f_Gr_slotAt_0 (s_self : Nat → Nat → Int32) (v1 v2 : Int32) : Option ((Int32)) :=
  bd1 (m_Gr_hasRule s_self v1) fun r_1 =>
  if r_1 = 0 then
    some ((-1))
  else
    if v2 < 0 then
      some ((-1))
    else
      ck v1 30 <|
      if (s_self 3 (Int32.toNatClampNeg v1)) ≤ v2 then
        some ((-1))
      else
        ck ((v1 * 8) + v2) 240 <|
        some (s_self 5 (Int32.toNatClampNeg ((v1 * 8) + v2)))
set_option maxHeartbeats 4000000 in
set_option maxRecDepth 100000 in
theorem t_Gr_slotAt_0 {p : Program} {l : Launch} {e : Env} {s : State} {m : MethodId} {args : Array Value} {below : List Frame} {meth : Method} {c : Code} {A : Nat → Prop} {D : va_G} {K : Nat → ClassId} (a_self : Nat → Nat) (X : gx p s m args c b_Gr_slotAt 3 R_Gr w_Gr_slotAt D classes (tyK K) A) (hr : meth.sig.returnType = some .int) (hlk : meth.locks = false) (r : Int32) (s_self : Nat → Nat → Int32) (v1 v2 : Int32) (h : f_Gr_slotAt_0 s_self v1 v2 = some r) : Gd p l e rm_Gr_slotAt s m args below meth c 0 0 (MQ below (sq D classes (tyK K) (some (.int r)) (wd_Gr K a_self s_self) A) args s 0 0 A) D classes A 3 0 (wd_Gr K a_self s_self) [(0, .ref (a_self 0)), (1, .int v1), (2, .int v2)] [] := by
  unfold f_Gr_slotAt_0 at h
  refine gd_aload_n X d_Gr_slotAt_0 0 rfl ?_
  refine gd_iload_n X d_Gr_slotAt_1 1 rfl ?_
  obtain ⟨r_1, hc_2, h⟩ := bd1_e h
  refine gd_fI X (gd_V X (As := [.int v1]) (rest := []) (c_Gr_hasRule l D K a_self s_self v1 r_1 hc_2) 1 (gi_V ml_Gr_47 u_Gr_hasRule) rfl ⟨rfl, rfl⟩ (by decide +kernel) ⟨by decide, by decide⟩ (ci := 1) rfl rfl 0 rfl rfl rfl (Nat.le_of_ble_eq_true rfl) ⟨Nat.zero_le _, Nat.zero_le _⟩ d_Gr_slotAt_2) rfl ?_
  refine gd_if_eq X (tgt := 36) d_Gr_slotAt_5 (by decide) (fun c_3 => ?_) (fun c_3 => ?_)
  · replace h := it_p c_3 h
    refine gd_iconst X (v := (-1)) d_Gr_slotAt_36 (by decide) ?_
    cases h
    exact gd_iret X hr hlk d_Gr_slotAt_37
  · replace h := it_n c_3 h
    refine gd_iload_n X d_Gr_slotAt_8 2 rfl ?_
    refine gd_if_lt X (tgt := 36) d_Gr_slotAt_9 (by decide) (fun c_4 => ?_) (fun c_4 => ?_)
    · replace h := it_p c_4 h
      refine gd_iconst X (v := (-1)) d_Gr_slotAt_36 (by decide) ?_
      cases h
      exact gd_iret X hr hlk d_Gr_slotAt_37
    · replace h := it_n c_4 h
      refine gd_iload_n X d_Gr_slotAt_12 2 rfl ?_
      refine gd_aload_n X d_Gr_slotAt_13 0 rfl ?_
      refine gd_get X (ci := 1) (C := R_Gr) (T := F_Gr) (N := 12) (v := .ref (a_self 3)) 0 rfl rfl (in_Gr _) 7 (by decide) (List.mem_cons_of_mem _ fl_Gr_18) rfl rfl d_Gr_slotAt_14 ?_
      refine gd_iload_n X d_Gr_slotAt_17 1 rfl ?_
      obtain ⟨hi_5, h⟩ := ck_e h
      refine gd_iald X 3 0 rfl rfl hi_5 d_Gr_slotAt_18 ?_
      refine gd_icmp_ge X (tgt := 36) d_Gr_slotAt_19 (by decide) (fun c_6 => ?_) (fun c_6 => ?_)
      · replace h := it_p c_6 h
        refine gd_iconst X (v := (-1)) d_Gr_slotAt_36 (by decide) ?_
        cases h
        exact gd_iret X hr hlk d_Gr_slotAt_37
      · replace h := it_n c_6 h
        refine gd_aload_n X d_Gr_slotAt_22 0 rfl ?_
        refine gd_get X (ci := 1) (C := R_Gr) (T := F_Gr) (N := 12) (v := .ref (a_self 5)) 0 rfl rfl (in_Gr _) 9 (by decide) (List.mem_cons_of_mem _ fl_Gr_24) rfl rfl d_Gr_slotAt_23 ?_
        refine gd_iload_n X d_Gr_slotAt_26 1 rfl ?_
        refine gd_bipush X (v := 8) d_Gr_slotAt_27 (by decide) ?_
        refine gd_imul X d_Gr_slotAt_29 ?_
        refine gd_iload_n X d_Gr_slotAt_30 2 rfl ?_
        refine gd_iadd X d_Gr_slotAt_31 ?_
        obtain ⟨hi_7, h⟩ := ck_e h
        refine gd_iald X 5 0 rfl rfl hi_7 d_Gr_slotAt_32 ?_
        refine gd_goto X (tgt := 37) d_Gr_slotAt_33 (by decide) ?_
        cases h
        exact gd_iret X hr hlk d_Gr_slotAt_37
def m_Gr_slotAt (s_self : Nat → Nat → Int32) (v1 v2 : Int32) : Option ((Int32)) := f_Gr_slotAt_0 s_self v1 v2
set_option maxHeartbeats 4000000 in
set_option maxRecDepth 100000 in
theorem c_Gr_slotAt (l : Launch) (D : va_G) (K : Nat → ClassId) (a_self : Nat → Nat) (s_self : Nat → Nat → Int32) (v1 v2 : Int32) (r : Int32) (h : m_Gr_slotAt s_self v1 v2 = some r) : SMet l y_Gr_slotAt w_Gr_slotAt rm_Gr_slotAt D classes (tyK K) [.ref (a_self 0), .int v1, .int v2] (some (.int r)) (wd_Gr K a_self s_self) (wd_Gr K a_self s_self) := by
  refine sm_of R_Gr (by decide) rfl rfl (Nat.le_of_ble_eq_true rfl) ?_
  intro p e s m below meth c A X hr hlk
  refine gd_loc (lv' := [(0, .ref (a_self 0)), (1, .int v1), (2, .int v2)]) [0, 1, 2] rfl ?_
  exact t_Gr_slotAt_0 a_self X hr hlk r s_self v1 v2 h
abbrev b_Gr_sortOfSlot : ByteArray := prog_3_method_11_code
def y_Gr_sortOfSlot : MethodName := ⟨R_Gr, "sortOfSlot", "(II)I"⟩
def w_Gr_sortOfSlot : List Cond := .code y_Gr_sortOfSlot b_Gr_sortOfSlot 3 (some .int) :: TB
theorem k_Gr_sortOfSlot : Cond.code y_Gr_sortOfSlot b_Gr_sortOfSlot 3 (some .int) ∈ TB := tb_of 402 (by decide +kernel) (by decide +kernel)
theorem d_Gr_sortOfSlot_0 : decode b_Gr_sortOfSlot 0 = .ok (.aload_n 0, 1) := by decide +kernel
theorem d_Gr_sortOfSlot_1 : decode b_Gr_sortOfSlot 1 = .ok (.iload_n 1, 1) := by decide +kernel
theorem d_Gr_sortOfSlot_2 : decode b_Gr_sortOfSlot 2 = .ok (.invokevirtual 47, 3) := by decide +kernel
theorem d_Gr_sortOfSlot_5 : decode b_Gr_sortOfSlot 5 = .ok (.ifCond .eq 30, 3) := by decide +kernel
theorem d_Gr_sortOfSlot_8 : decode b_Gr_sortOfSlot 8 = .ok (.iload_n 2, 1) := by decide +kernel
theorem d_Gr_sortOfSlot_9 : decode b_Gr_sortOfSlot 9 = .ok (.ifCond .lt 26, 3) := by decide +kernel
theorem d_Gr_sortOfSlot_12 : decode b_Gr_sortOfSlot 12 = .ok (.iload_n 2, 1) := by decide +kernel
theorem d_Gr_sortOfSlot_13 : decode b_Gr_sortOfSlot 13 = .ok (.aload_n 0, 1) := by decide +kernel
theorem d_Gr_sortOfSlot_14 : decode b_Gr_sortOfSlot 14 = .ok (.getfield 27, 3) := by decide +kernel
theorem d_Gr_sortOfSlot_17 : decode b_Gr_sortOfSlot 17 = .ok (.iload_n 1, 1) := by decide +kernel
theorem d_Gr_sortOfSlot_18 : decode b_Gr_sortOfSlot 18 = .ok (.iaload, 1) := by decide +kernel
theorem d_Gr_sortOfSlot_19 : decode b_Gr_sortOfSlot 19 = .ok (.if_icmp .ge 16, 3) := by decide +kernel
theorem d_Gr_sortOfSlot_22 : decode b_Gr_sortOfSlot 22 = .ok (.aload_n 0, 1) := by decide +kernel
theorem d_Gr_sortOfSlot_23 : decode b_Gr_sortOfSlot 23 = .ok (.getfield 30, 3) := by decide +kernel
theorem d_Gr_sortOfSlot_26 : decode b_Gr_sortOfSlot 26 = .ok (.iload_n 1, 1) := by decide +kernel
theorem d_Gr_sortOfSlot_27 : decode b_Gr_sortOfSlot 27 = .ok (.iconst 4, 1) := by decide +kernel
theorem d_Gr_sortOfSlot_28 : decode b_Gr_sortOfSlot 28 = .ok (.imul, 1) := by decide +kernel
theorem d_Gr_sortOfSlot_29 : decode b_Gr_sortOfSlot 29 = .ok (.iload_n 2, 1) := by decide +kernel
theorem d_Gr_sortOfSlot_30 : decode b_Gr_sortOfSlot 30 = .ok (.iadd, 1) := by decide +kernel
theorem d_Gr_sortOfSlot_31 : decode b_Gr_sortOfSlot 31 = .ok (.iaload, 1) := by decide +kernel
theorem d_Gr_sortOfSlot_32 : decode b_Gr_sortOfSlot 32 = .ok (.goto 4, 3) := by decide +kernel
theorem d_Gr_sortOfSlot_35 : decode b_Gr_sortOfSlot 35 = .ok (.iconst (-1), 1) := by decide +kernel
theorem d_Gr_sortOfSlot_36 : decode b_Gr_sortOfSlot 36 = .ok (.ireturn, 1) := by decide +kernel
theorem fl_Gr_30 : Cond.fieldLink R_Gr 30 "RuleTrees$Grammar" "slotSort" "[I" ∈ TB := tb_of 102 (by decide +kernel) (by decide +kernel)
abbrev rm_Gr_sortOfSlot : Room := { frames := 1, cells := 0, slots := 0, locals := 21 }
def f_Gr_sortOfSlot_0 (s_self : Nat → Nat → Int32) (v1 v2 : Int32) : Option ((Int32)) :=
  bd1 (m_Gr_hasRule s_self v1) fun r_1 =>
  if r_1 = 0 then
    some ((-1))
  else
    if v2 < 0 then
      some ((-1))
    else
      ck v1 30 <|
      if (s_self 6 (Int32.toNatClampNeg v1)) ≤ v2 then
        some ((-1))
      else
        ck ((v1 * 4) + v2) 120 <|
        some (s_self 7 (Int32.toNatClampNeg ((v1 * 4) + v2)))
set_option maxHeartbeats 4000000 in
set_option maxRecDepth 100000 in
theorem t_Gr_sortOfSlot_0 {p : Program} {l : Launch} {e : Env} {s : State} {m : MethodId} {args : Array Value} {below : List Frame} {meth : Method} {c : Code} {A : Nat → Prop} {D : va_G} {K : Nat → ClassId} (a_self : Nat → Nat) (X : gx p s m args c b_Gr_sortOfSlot 3 R_Gr w_Gr_sortOfSlot D classes (tyK K) A) (hr : meth.sig.returnType = some .int) (hlk : meth.locks = false) (r : Int32) (s_self : Nat → Nat → Int32) (v1 v2 : Int32) (h : f_Gr_sortOfSlot_0 s_self v1 v2 = some r) : Gd p l e rm_Gr_sortOfSlot s m args below meth c 0 0 (MQ below (sq D classes (tyK K) (some (.int r)) (wd_Gr K a_self s_self) A) args s 0 0 A) D classes A 3 0 (wd_Gr K a_self s_self) [(0, .ref (a_self 0)), (1, .int v1), (2, .int v2)] [] := by
  unfold f_Gr_sortOfSlot_0 at h
  refine gd_aload_n X d_Gr_sortOfSlot_0 0 rfl ?_
  refine gd_iload_n X d_Gr_sortOfSlot_1 1 rfl ?_
  obtain ⟨r_1, hc_2, h⟩ := bd1_e h
  refine gd_fI X (gd_V X (As := [.int v1]) (rest := []) (c_Gr_hasRule l D K a_self s_self v1 r_1 hc_2) 1 (gi_V ml_Gr_47 u_Gr_hasRule) rfl ⟨rfl, rfl⟩ (by decide +kernel) ⟨by decide, by decide⟩ (ci := 1) rfl rfl 0 rfl rfl rfl (Nat.le_of_ble_eq_true rfl) ⟨Nat.zero_le _, Nat.zero_le _⟩ d_Gr_sortOfSlot_2) rfl ?_
  refine gd_if_eq X (tgt := 35) d_Gr_sortOfSlot_5 (by decide) (fun c_3 => ?_) (fun c_3 => ?_)
  · replace h := it_p c_3 h
    refine gd_iconst X (v := (-1)) d_Gr_sortOfSlot_35 (by decide) ?_
    cases h
    exact gd_iret X hr hlk d_Gr_sortOfSlot_36
  · replace h := it_n c_3 h
    refine gd_iload_n X d_Gr_sortOfSlot_8 2 rfl ?_
    refine gd_if_lt X (tgt := 35) d_Gr_sortOfSlot_9 (by decide) (fun c_4 => ?_) (fun c_4 => ?_)
    · replace h := it_p c_4 h
      refine gd_iconst X (v := (-1)) d_Gr_sortOfSlot_35 (by decide) ?_
      cases h
      exact gd_iret X hr hlk d_Gr_sortOfSlot_36
    · replace h := it_n c_4 h
      refine gd_iload_n X d_Gr_sortOfSlot_12 2 rfl ?_
      refine gd_aload_n X d_Gr_sortOfSlot_13 0 rfl ?_
      refine gd_get X (ci := 1) (C := R_Gr) (T := F_Gr) (N := 12) (v := .ref (a_self 6)) 0 rfl rfl (in_Gr _) 10 (by decide) (List.mem_cons_of_mem _ fl_Gr_27) rfl rfl d_Gr_sortOfSlot_14 ?_
      refine gd_iload_n X d_Gr_sortOfSlot_17 1 rfl ?_
      obtain ⟨hi_5, h⟩ := ck_e h
      refine gd_iald X 6 0 rfl rfl hi_5 d_Gr_sortOfSlot_18 ?_
      refine gd_icmp_ge X (tgt := 35) d_Gr_sortOfSlot_19 (by decide) (fun c_6 => ?_) (fun c_6 => ?_)
      · replace h := it_p c_6 h
        refine gd_iconst X (v := (-1)) d_Gr_sortOfSlot_35 (by decide) ?_
        cases h
        exact gd_iret X hr hlk d_Gr_sortOfSlot_36
      · replace h := it_n c_6 h
        refine gd_aload_n X d_Gr_sortOfSlot_22 0 rfl ?_
        refine gd_get X (ci := 1) (C := R_Gr) (T := F_Gr) (N := 12) (v := .ref (a_self 7)) 0 rfl rfl (in_Gr _) 11 (by decide) (List.mem_cons_of_mem _ fl_Gr_30) rfl rfl d_Gr_sortOfSlot_23 ?_
        refine gd_iload_n X d_Gr_sortOfSlot_26 1 rfl ?_
        refine gd_iconst X (v := 4) d_Gr_sortOfSlot_27 (by decide) ?_
        refine gd_imul X d_Gr_sortOfSlot_28 ?_
        refine gd_iload_n X d_Gr_sortOfSlot_29 2 rfl ?_
        refine gd_iadd X d_Gr_sortOfSlot_30 ?_
        obtain ⟨hi_7, h⟩ := ck_e h
        refine gd_iald X 7 0 rfl rfl hi_7 d_Gr_sortOfSlot_31 ?_
        refine gd_goto X (tgt := 36) d_Gr_sortOfSlot_32 (by decide) ?_
        cases h
        exact gd_iret X hr hlk d_Gr_sortOfSlot_36
def m_Gr_sortOfSlot (s_self : Nat → Nat → Int32) (v1 v2 : Int32) : Option ((Int32)) := f_Gr_sortOfSlot_0 s_self v1 v2
set_option maxHeartbeats 4000000 in
set_option maxRecDepth 100000 in
theorem c_Gr_sortOfSlot (l : Launch) (D : va_G) (K : Nat → ClassId) (a_self : Nat → Nat) (s_self : Nat → Nat → Int32) (v1 v2 : Int32) (r : Int32) (h : m_Gr_sortOfSlot s_self v1 v2 = some r) : SMet l y_Gr_sortOfSlot w_Gr_sortOfSlot rm_Gr_sortOfSlot D classes (tyK K) [.ref (a_self 0), .int v1, .int v2] (some (.int r)) (wd_Gr K a_self s_self) (wd_Gr K a_self s_self) := by
  refine sm_of R_Gr (by decide) rfl rfl (Nat.le_of_ble_eq_true rfl) ?_
  intro p e s m below meth c A X hr hlk
  refine gd_loc (lv' := [(0, .ref (a_self 0)), (1, .int v1), (2, .int v2)]) [0, 1, 2] rfl ?_
  exact t_Gr_sortOfSlot_0 a_self X hr hlk r s_self v1 v2 h
abbrev b_Gr_isUnit : ByteArray := prog_3_method_12_code
def y_Gr_isUnit : MethodName := ⟨R_Gr, "isUnit", "(I)Z"⟩
def w_Gr_isUnit : List Cond := .code y_Gr_isUnit b_Gr_isUnit 2 (some .boolean) :: TB
theorem k_Gr_isUnit : Cond.code y_Gr_isUnit b_Gr_isUnit 2 (some .boolean) ∈ TB := tb_of 378 (by decide +kernel) (by decide +kernel)
theorem d_Gr_isUnit_0 : decode b_Gr_isUnit 0 = .ok (.aload_n 0, 1) := by decide +kernel
theorem d_Gr_isUnit_1 : decode b_Gr_isUnit 1 = .ok (.iload_n 1, 1) := by decide +kernel
theorem d_Gr_isUnit_2 : decode b_Gr_isUnit 2 = .ok (.invokevirtual 50, 3) := by decide +kernel
theorem d_Gr_isUnit_5 : decode b_Gr_isUnit 5 = .ok (.iconst 1, 1) := by decide +kernel
theorem d_Gr_isUnit_6 : decode b_Gr_isUnit 6 = .ok (.if_icmp .ne 16, 3) := by decide +kernel
theorem d_Gr_isUnit_9 : decode b_Gr_isUnit 9 = .ok (.aload_n 0, 1) := by decide +kernel
theorem d_Gr_isUnit_10 : decode b_Gr_isUnit 10 = .ok (.iload_n 1, 1) := by decide +kernel
theorem d_Gr_isUnit_11 : decode b_Gr_isUnit 11 = .ok (.invokevirtual 54, 3) := by decide +kernel
theorem d_Gr_isUnit_14 : decode b_Gr_isUnit 14 = .ok (.iconst 1, 1) := by decide +kernel
theorem d_Gr_isUnit_15 : decode b_Gr_isUnit 15 = .ok (.if_icmp .ne 7, 3) := by decide +kernel
theorem d_Gr_isUnit_18 : decode b_Gr_isUnit 18 = .ok (.iconst 1, 1) := by decide +kernel
theorem d_Gr_isUnit_19 : decode b_Gr_isUnit 19 = .ok (.goto 4, 3) := by decide +kernel
theorem d_Gr_isUnit_22 : decode b_Gr_isUnit 22 = .ok (.iconst 0, 1) := by decide +kernel
theorem d_Gr_isUnit_23 : decode b_Gr_isUnit 23 = .ok (.ireturn, 1) := by decide +kernel
theorem ml_Gr_50 : Cond.methodLink R_Gr 50 ⟨"RuleTrees$Grammar", "lengthOfRule", "(I)I"⟩ ∈ TB := tb_of 379 (by decide +kernel) (by decide +kernel)
theorem u_Gr_lengthOfRule : (Cond.instanceMethod y_Gr_lengthOfRule ∈ TB ∧ Cond.selects R_Gr y_Gr_lengthOfRule y_Gr_lengthOfRule ∈ TB) ∧ Cond.initialized R_Gr ∈ TB ∧ Cond.code y_Gr_lengthOfRule b_Gr_lengthOfRule 2 (some .int) ∈ TB := ⟨⟨(tb_of 380 (by decide +kernel) (by decide +kernel)), (tb_of 381 (by decide +kernel) (by decide +kernel))⟩, (tb_of 63 (by decide +kernel) (by decide +kernel)), k_Gr_lengthOfRule⟩
theorem ml_Gr_54 : Cond.methodLink R_Gr 54 ⟨"RuleTrees$Grammar", "slotsOfCode", "(I)I"⟩ ∈ TB := tb_of 387 (by decide +kernel) (by decide +kernel)
theorem u_Gr_slotsOfCode : (Cond.instanceMethod y_Gr_slotsOfCode ∈ TB ∧ Cond.selects R_Gr y_Gr_slotsOfCode y_Gr_slotsOfCode ∈ TB) ∧ Cond.initialized R_Gr ∈ TB ∧ Cond.code y_Gr_slotsOfCode b_Gr_slotsOfCode 2 (some .int) ∈ TB := ⟨⟨(tb_of 388 (by decide +kernel) (by decide +kernel)), (tb_of 389 (by decide +kernel) (by decide +kernel))⟩, (tb_of 63 (by decide +kernel) (by decide +kernel)), k_Gr_slotsOfCode⟩
abbrev rm_Gr_isUnit : Room := { frames := 2, cells := 0, slots := 0, locals := 42 }
def f_Gr_isUnit_0 (s_self : Nat → Nat → Int32) (v1 : Int32) : Option ((Int32)) :=
  bd1 (m_Gr_lengthOfRule s_self v1) fun r_1 =>
  if r_1 = 1 then
    bd1 (m_Gr_slotsOfCode s_self v1) fun r_4 =>
    if r_4 = 1 then
      some (1)
    else
      some (0)
  else
    some (0)
set_option maxHeartbeats 4000000 in
set_option maxRecDepth 100000 in
theorem t_Gr_isUnit_0 {p : Program} {l : Launch} {e : Env} {s : State} {m : MethodId} {args : Array Value} {below : List Frame} {meth : Method} {c : Code} {A : Nat → Prop} {D : va_G} {K : Nat → ClassId} (a_self : Nat → Nat) (X : gx p s m args c b_Gr_isUnit 2 R_Gr w_Gr_isUnit D classes (tyK K) A) (hr : meth.sig.returnType = some .boolean) (hlk : meth.locks = false) (r : Int32) (s_self : Nat → Nat → Int32) (v1 : Int32) (h : f_Gr_isUnit_0 s_self v1 = some r) : Gd p l e rm_Gr_isUnit s m args below meth c 0 0 (MQ below (sq D classes (tyK K) (some (.int r)) (wd_Gr K a_self s_self) A) args s 0 0 A) D classes A 2 0 (wd_Gr K a_self s_self) [(0, .ref (a_self 0)), (1, .int v1)] [] := by
  unfold f_Gr_isUnit_0 at h
  refine gd_aload_n X d_Gr_isUnit_0 0 rfl ?_
  refine gd_iload_n X d_Gr_isUnit_1 1 rfl ?_
  obtain ⟨r_1, hc_2, h⟩ := bd1_e h
  refine gd_fI X (gd_V X (As := [.int v1]) (rest := []) (c_Gr_lengthOfRule l D K a_self s_self v1 r_1 hc_2) 1 (gi_V ml_Gr_50 u_Gr_lengthOfRule) rfl ⟨rfl, rfl⟩ (by decide +kernel) ⟨by decide, by decide⟩ (ci := 1) rfl rfl 0 rfl rfl rfl (Nat.le_of_ble_eq_true rfl) ⟨Nat.zero_le _, Nat.zero_le _⟩ d_Gr_isUnit_2) rfl ?_
  refine gd_iconst X (v := 1) d_Gr_isUnit_5 (by decide) ?_
  refine gd_icmp_ne X (tgt := 22) d_Gr_isUnit_6 (by decide) (fun c_3 => ?_) (fun c_3 => ?_)
  · replace h := it_n c_3 h
    refine gd_iconst X (v := 0) d_Gr_isUnit_22 (by decide) ?_
    cases h
    exact gd_zret X hr hlk (by decide) d_Gr_isUnit_23
  · replace h := it_p c_3 h
    refine gd_aload_n X d_Gr_isUnit_9 0 rfl ?_
    refine gd_iload_n X d_Gr_isUnit_10 1 rfl ?_
    obtain ⟨r_4, hc_5, h⟩ := bd1_e h
    refine gd_fI X (gd_V X (As := [.int v1]) (rest := []) (c_Gr_slotsOfCode l D K a_self s_self v1 r_4 hc_5) 1 (gi_V ml_Gr_54 u_Gr_slotsOfCode) rfl ⟨rfl, rfl⟩ (by decide +kernel) ⟨by decide, by decide⟩ (ci := 1) rfl rfl 0 rfl rfl rfl (Nat.le_of_ble_eq_true rfl) ⟨Nat.zero_le _, Nat.zero_le _⟩ d_Gr_isUnit_11) rfl ?_
    refine gd_iconst X (v := 1) d_Gr_isUnit_14 (by decide) ?_
    refine gd_icmp_ne X (tgt := 22) d_Gr_isUnit_15 (by decide) (fun c_6 => ?_) (fun c_6 => ?_)
    · replace h := it_n c_6 h
      refine gd_iconst X (v := 0) d_Gr_isUnit_22 (by decide) ?_
      cases h
      exact gd_zret X hr hlk (by decide) d_Gr_isUnit_23
    · replace h := it_p c_6 h
      refine gd_iconst X (v := 1) d_Gr_isUnit_18 (by decide) ?_
      refine gd_goto X (tgt := 23) d_Gr_isUnit_19 (by decide) ?_
      cases h
      exact gd_zret X hr hlk (by decide) d_Gr_isUnit_23
def m_Gr_isUnit (s_self : Nat → Nat → Int32) (v1 : Int32) : Option ((Int32)) := f_Gr_isUnit_0 s_self v1
set_option maxHeartbeats 4000000 in
set_option maxRecDepth 100000 in
theorem c_Gr_isUnit (l : Launch) (D : va_G) (K : Nat → ClassId) (a_self : Nat → Nat) (s_self : Nat → Nat → Int32) (v1 : Int32) (r : Int32) (h : m_Gr_isUnit s_self v1 = some r) : SMet l y_Gr_isUnit w_Gr_isUnit rm_Gr_isUnit D classes (tyK K) [.ref (a_self 0), .int v1] (some (.int r)) (wd_Gr K a_self s_self) (wd_Gr K a_self s_self) := by
  refine sm_of R_Gr (by decide) rfl rfl (Nat.le_of_ble_eq_true rfl) ?_
  intro p e s m below meth c A X hr hlk
  refine gd_loc (lv' := [(0, .ref (a_self 0)), (1, .int v1)]) [0, 1] rfl ?_
  exact t_Gr_isUnit_0 a_self X hr hlk r s_self v1 h
abbrev b_Gr_begunLength : ByteArray := prog_3_method_13_code
def y_Gr_begunLength : MethodName := ⟨R_Gr, "begunLength", "()I"⟩
def w_Gr_begunLength : List Cond := .code y_Gr_begunLength b_Gr_begunLength 1 (some .int) :: TB
theorem k_Gr_begunLength : Cond.code y_Gr_begunLength b_Gr_begunLength 1 (some .int) ∈ TB := tb_of 344 (by decide +kernel) (by decide +kernel)
theorem d_Gr_begunLength_0 : decode b_Gr_begunLength 0 = .ok (.aload_n 0, 1) := by decide +kernel
theorem d_Gr_begunLength_1 : decode b_Gr_begunLength 1 = .ok (.getfield 57, 3) := by decide +kernel
theorem d_Gr_begunLength_4 : decode b_Gr_begunLength 4 = .ok (.ifCond .eq 24, 3) := by decide +kernel
theorem d_Gr_begunLength_7 : decode b_Gr_begunLength 7 = .ok (.aload_n 0, 1) := by decide +kernel
theorem d_Gr_begunLength_8 : decode b_Gr_begunLength 8 = .ok (.getfield 37, 3) := by decide +kernel
theorem d_Gr_begunLength_11 : decode b_Gr_begunLength 11 = .ok (.bipush 30, 2) := by decide +kernel
theorem d_Gr_begunLength_13 : decode b_Gr_begunLength 13 = .ok (.if_icmp .ge 15, 3) := by decide +kernel
theorem d_Gr_begunLength_16 : decode b_Gr_begunLength 16 = .ok (.aload_n 0, 1) := by decide +kernel
theorem d_Gr_begunLength_17 : decode b_Gr_begunLength 17 = .ok (.getfield 18, 3) := by decide +kernel
theorem d_Gr_begunLength_20 : decode b_Gr_begunLength 20 = .ok (.aload_n 0, 1) := by decide +kernel
theorem d_Gr_begunLength_21 : decode b_Gr_begunLength 21 = .ok (.getfield 37, 3) := by decide +kernel
theorem d_Gr_begunLength_24 : decode b_Gr_begunLength 24 = .ok (.iaload, 1) := by decide +kernel
theorem d_Gr_begunLength_25 : decode b_Gr_begunLength 25 = .ok (.goto 4, 3) := by decide +kernel
theorem d_Gr_begunLength_28 : decode b_Gr_begunLength 28 = .ok (.iconst 0, 1) := by decide +kernel
theorem d_Gr_begunLength_29 : decode b_Gr_begunLength 29 = .ok (.ireturn, 1) := by decide +kernel
theorem fl_Gr_57 : Cond.fieldLink R_Gr 57 "RuleTrees$Grammar" "begun" "Z" ∈ TB := tb_of 94 (by decide +kernel) (by decide +kernel)
abbrev rm_Gr_begunLength : Room := { frames := 0, cells := 0, slots := 0, locals := 0 }
def f_Gr_begunLength_0 (s_self : Nat → Nat → Int32) : Option ((Int32)) :=
  if (s_self 0 3) = 0 then
    some (0)
  else
    if 30 ≤ (s_self 0 2) then
      some (0)
    else
      ck (s_self 0 2) 30 <|
      some (s_self 3 (Int32.toNatClampNeg (s_self 0 2)))
set_option maxHeartbeats 4000000 in
set_option maxRecDepth 100000 in
theorem t_Gr_begunLength_0 {p : Program} {l : Launch} {e : Env} {s : State} {m : MethodId} {args : Array Value} {below : List Frame} {meth : Method} {c : Code} {A : Nat → Prop} {D : va_G} {K : Nat → ClassId} (a_self : Nat → Nat) (X : gx p s m args c b_Gr_begunLength 1 R_Gr w_Gr_begunLength D classes (tyK K) A) (hr : meth.sig.returnType = some .int) (hlk : meth.locks = false) (r : Int32) (s_self : Nat → Nat → Int32) (h : f_Gr_begunLength_0 s_self = some r) : Gd p l e rm_Gr_begunLength s m args below meth c 0 0 (MQ below (sq D classes (tyK K) (some (.int r)) (wd_Gr K a_self s_self) A) args s 0 0 A) D classes A 1 0 (wd_Gr K a_self s_self) [(0, .ref (a_self 0))] [] := by
  unfold f_Gr_begunLength_0 at h
  refine gd_aload_n X d_Gr_begunLength_0 0 rfl ?_
  refine gd_get X (ci := 1) (C := R_Gr) (T := F_Gr) (N := 12) (v := .int (s_self 0 3)) 0 rfl rfl (in_Gr _) 3 (by decide) (List.mem_cons_of_mem _ fl_Gr_57) rfl rfl d_Gr_begunLength_1 ?_
  refine gd_if_eq X (tgt := 28) d_Gr_begunLength_4 (by decide) (fun c_1 => ?_) (fun c_1 => ?_)
  · replace h := it_p c_1 h
    refine gd_iconst X (v := 0) d_Gr_begunLength_28 (by decide) ?_
    cases h
    exact gd_iret X hr hlk d_Gr_begunLength_29
  · replace h := it_n c_1 h
    refine gd_aload_n X d_Gr_begunLength_7 0 rfl ?_
    refine gd_get X (ci := 1) (C := R_Gr) (T := F_Gr) (N := 12) (v := .int (s_self 0 2)) 0 rfl rfl (in_Gr _) 2 (by decide) (List.mem_cons_of_mem _ fl_Gr_37) rfl rfl d_Gr_begunLength_8 ?_
    refine gd_bipush X (v := 30) d_Gr_begunLength_11 (by decide) ?_
    refine gd_icmp_ge X (tgt := 28) d_Gr_begunLength_13 (by decide) (fun c_2 => ?_) (fun c_2 => ?_)
    · replace h := it_p c_2 h
      refine gd_iconst X (v := 0) d_Gr_begunLength_28 (by decide) ?_
      cases h
      exact gd_iret X hr hlk d_Gr_begunLength_29
    · replace h := it_n c_2 h
      refine gd_aload_n X d_Gr_begunLength_16 0 rfl ?_
      refine gd_get X (ci := 1) (C := R_Gr) (T := F_Gr) (N := 12) (v := .ref (a_self 3)) 0 rfl rfl (in_Gr _) 7 (by decide) (List.mem_cons_of_mem _ fl_Gr_18) rfl rfl d_Gr_begunLength_17 ?_
      refine gd_aload_n X d_Gr_begunLength_20 0 rfl ?_
      refine gd_get X (ci := 1) (C := R_Gr) (T := F_Gr) (N := 12) (v := .int (s_self 0 2)) 0 rfl rfl (in_Gr _) 2 (by decide) (List.mem_cons_of_mem _ fl_Gr_37) rfl rfl d_Gr_begunLength_21 ?_
      obtain ⟨hi_3, h⟩ := ck_e h
      refine gd_iald X 3 0 rfl rfl hi_3 d_Gr_begunLength_24 ?_
      refine gd_goto X (tgt := 29) d_Gr_begunLength_25 (by decide) ?_
      cases h
      exact gd_iret X hr hlk d_Gr_begunLength_29
def m_Gr_begunLength (s_self : Nat → Nat → Int32) : Option ((Int32)) := f_Gr_begunLength_0 s_self
set_option maxHeartbeats 4000000 in
set_option maxRecDepth 100000 in
theorem c_Gr_begunLength (l : Launch) (D : va_G) (K : Nat → ClassId) (a_self : Nat → Nat) (s_self : Nat → Nat → Int32) (r : Int32) (h : m_Gr_begunLength s_self = some r) : SMet l y_Gr_begunLength w_Gr_begunLength rm_Gr_begunLength D classes (tyK K) [.ref (a_self 0)] (some (.int r)) (wd_Gr K a_self s_self) (wd_Gr K a_self s_self) := by
  refine sm_of R_Gr (by decide) rfl rfl (Nat.le_of_ble_eq_true rfl) ?_
  intro p e s m below meth c A X hr hlk
  refine gd_loc (lv' := [(0, .ref (a_self 0))]) [0] rfl ?_
  exact t_Gr_begunLength_0 a_self X hr hlk r s_self h
abbrev b_Gr_addSort : ByteArray := prog_3_method_14_code
def y_Gr_addSort : MethodName := ⟨R_Gr, "addSort", "()I"⟩
def w_Gr_addSort : List Cond := .code y_Gr_addSort b_Gr_addSort 1 (some .int) :: TB
theorem k_Gr_addSort : Cond.code y_Gr_addSort b_Gr_addSort 1 (some .int) ∈ TB := tb_of 296 (by decide +kernel) (by decide +kernel)
theorem d_Gr_addSort_0 : decode b_Gr_addSort 0 = .ok (.aload_n 0, 1) := by decide +kernel
theorem d_Gr_addSort_1 : decode b_Gr_addSort 1 = .ok (.getfield 33, 3) := by decide +kernel
theorem d_Gr_addSort_4 : decode b_Gr_addSort 4 = .ok (.bipush 6, 2) := by decide +kernel
theorem d_Gr_addSort_6 : decode b_Gr_addSort 6 = .ok (.if_icmp .lt 5, 3) := by decide +kernel
theorem d_Gr_addSort_9 : decode b_Gr_addSort 9 = .ok (.iconst (-1), 1) := by decide +kernel
theorem d_Gr_addSort_10 : decode b_Gr_addSort 10 = .ok (.ireturn, 1) := by decide +kernel
theorem d_Gr_addSort_11 : decode b_Gr_addSort 11 = .ok (.aload_n 0, 1) := by decide +kernel
theorem d_Gr_addSort_12 : decode b_Gr_addSort 12 = .ok (.dup, 1) := by decide +kernel
theorem d_Gr_addSort_13 : decode b_Gr_addSort 13 = .ok (.getfield 33, 3) := by decide +kernel
theorem d_Gr_addSort_16 : decode b_Gr_addSort 16 = .ok (.iconst 1, 1) := by decide +kernel
theorem d_Gr_addSort_17 : decode b_Gr_addSort 17 = .ok (.iadd, 1) := by decide +kernel
theorem d_Gr_addSort_18 : decode b_Gr_addSort 18 = .ok (.putfield 33, 3) := by decide +kernel
theorem d_Gr_addSort_21 : decode b_Gr_addSort 21 = .ok (.aload_n 0, 1) := by decide +kernel
theorem d_Gr_addSort_22 : decode b_Gr_addSort 22 = .ok (.getfield 33, 3) := by decide +kernel
theorem d_Gr_addSort_25 : decode b_Gr_addSort 25 = .ok (.iconst 1, 1) := by decide +kernel
theorem d_Gr_addSort_26 : decode b_Gr_addSort 26 = .ok (.isub, 1) := by decide +kernel
theorem d_Gr_addSort_27 : decode b_Gr_addSort 27 = .ok (.ireturn, 1) := by decide +kernel
abbrev rm_Gr_addSort : Room := { frames := 0, cells := 0, slots := 0, locals := 0 }
def f_Gr_addSort_0 (s_self : Nat → Nat → Int32) : Option ((Int32) × (Nat → Nat → Int32)) :=
  if (s_self 0 0) < 6 then
    nm (st2 s_self 0 0 ((s_self 0 0) + 1)) fun s_self_2 =>
    some (((s_self_2 0 0) - 1), s_self_2)
  else
    some (((-1)), s_self)
set_option maxHeartbeats 4000000 in
set_option maxRecDepth 100000 in
theorem t_Gr_addSort_0 {p : Program} {l : Launch} {e : Env} {s : State} {m : MethodId} {args : Array Value} {below : List Frame} {meth : Method} {c : Code} {A : Nat → Prop} {D : va_G} {K : Nat → ClassId} (a_self : Nat → Nat) (X : gx p s m args c b_Gr_addSort 1 R_Gr w_Gr_addSort D classes (tyK K) A) (hr : meth.sig.returnType = some .int) (hlk : meth.locks = false) (r : Int32) (f_self : Nat → Nat → Int32) (s_self : Nat → Nat → Int32) (h : f_Gr_addSort_0 s_self = some (r, f_self)) : Gd p l e rm_Gr_addSort s m args below meth c 0 0 (MQ below (sq D classes (tyK K) (some (.int r)) (wd_Gr K a_self f_self) A) args s 0 0 A) D classes A 1 0 (wd_Gr K a_self s_self) [(0, .ref (a_self 0))] [] := by
  unfold f_Gr_addSort_0 at h
  refine gd_aload_n X d_Gr_addSort_0 0 rfl ?_
  refine gd_get X (ci := 1) (C := R_Gr) (T := F_Gr) (N := 12) (v := .int (s_self 0 0)) 0 rfl rfl (in_Gr _) 0 (by decide) (List.mem_cons_of_mem _ fl_Gr_33) rfl rfl d_Gr_addSort_1 ?_
  refine gd_bipush X (v := 6) d_Gr_addSort_4 (by decide) ?_
  refine gd_icmp_lt X (tgt := 11) d_Gr_addSort_6 (by decide) (fun c_1 => ?_) (fun c_1 => ?_)
  · replace h := it_p c_1 h
    refine gd_aload_n X d_Gr_addSort_11 0 rfl ?_
    refine gd_dup X d_Gr_addSort_12 rfl ?_
    refine gd_get X (ci := 1) (C := R_Gr) (T := F_Gr) (N := 12) (v := .int (s_self 0 0)) 0 rfl rfl (in_Gr _) 0 (by decide) (List.mem_cons_of_mem _ fl_Gr_33) rfl rfl d_Gr_addSort_13 ?_
    refine gd_iconst X (v := 1) d_Gr_addSort_16 (by decide) ?_
    refine gd_iadd X d_Gr_addSort_17 ?_
    obtain ⟨s_self_2, es_self_2, h⟩ := nm_e' h
    refine gd_put X (ci := 1) (C := R_Gr) (T := F_Gr) (N := 12) (ty := .int) (w' := (wd_Gr K a_self s_self_2)) 0 rfl rfl (in_Gr _) t_Gr t_Gr_ok n_Gr 0 (by decide) (List.mem_cons_of_mem _ fl_Gr_33) rfl rfl (by decide +kernel) rfl rfl (Nat.le_of_ble_eq_true rfl) d_Gr_addSort_18 (by rw [es_self_2]; rfl) ?_
    refine gd_aload_n X d_Gr_addSort_21 0 rfl ?_
    refine gd_get X (ci := 1) (C := R_Gr) (T := F_Gr) (N := 12) (v := .int (s_self_2 0 0)) 0 rfl rfl (in_Gr _) 0 (by decide) (List.mem_cons_of_mem _ fl_Gr_33) rfl rfl d_Gr_addSort_22 ?_
    refine gd_iconst X (v := 1) d_Gr_addSort_25 (by decide) ?_
    refine gd_isub X d_Gr_addSort_26 ?_
    cases h
    exact gd_iret X hr hlk d_Gr_addSort_27
  · replace h := it_n c_1 h
    refine gd_iconst X (v := (-1)) d_Gr_addSort_9 (by decide) ?_
    cases h
    exact gd_iret X hr hlk d_Gr_addSort_10
def m_Gr_addSort (s_self : Nat → Nat → Int32) : Option ((Int32) × (Nat → Nat → Int32)) := f_Gr_addSort_0 s_self
set_option maxHeartbeats 4000000 in
set_option maxRecDepth 100000 in
theorem c_Gr_addSort (l : Launch) (D : va_G) (K : Nat → ClassId) (a_self : Nat → Nat) (s_self : Nat → Nat → Int32) (r : Int32) (f_self : Nat → Nat → Int32) (h : m_Gr_addSort s_self = some (r, f_self)) : SMet l y_Gr_addSort w_Gr_addSort rm_Gr_addSort D classes (tyK K) [.ref (a_self 0)] (some (.int r)) (wd_Gr K a_self s_self) (wd_Gr K a_self f_self) := by
  refine sm_of R_Gr (by decide) rfl rfl (Nat.le_of_ble_eq_true rfl) ?_
  intro p e s m below meth c A X hr hlk
  refine gd_loc (lv' := [(0, .ref (a_self 0))]) [0] rfl ?_
  exact t_Gr_addSort_0 a_self X hr hlk r f_self s_self h
abbrev b_Gr_addVariable : ByteArray := prog_3_method_15_code
def y_Gr_addVariable : MethodName := ⟨R_Gr, "addVariable", "(I)I"⟩
def w_Gr_addVariable : List Cond := .code y_Gr_addVariable b_Gr_addVariable 2 (some .int) :: TB
theorem k_Gr_addVariable : Cond.code y_Gr_addVariable b_Gr_addVariable 2 (some .int) ∈ TB := tb_of 304 (by decide +kernel) (by decide +kernel)
theorem d_Gr_addVariable_0 : decode b_Gr_addVariable 0 = .ok (.aload_n 0, 1) := by decide +kernel
theorem d_Gr_addVariable_1 : decode b_Gr_addVariable 1 = .ok (.iload_n 1, 1) := by decide +kernel
theorem d_Gr_addVariable_2 : decode b_Gr_addVariable 2 = .ok (.invokevirtual 61, 3) := by decide +kernel
theorem d_Gr_addVariable_5 : decode b_Gr_addVariable 5 = .ok (.ifCond .eq 12, 3) := by decide +kernel
theorem d_Gr_addVariable_8 : decode b_Gr_addVariable 8 = .ok (.aload_n 0, 1) := by decide +kernel
theorem d_Gr_addVariable_9 : decode b_Gr_addVariable 9 = .ok (.getfield 40, 3) := by decide +kernel
theorem d_Gr_addVariable_12 : decode b_Gr_addVariable 12 = .ok (.bipush 20, 2) := by decide +kernel
theorem d_Gr_addVariable_14 : decode b_Gr_addVariable 14 = .ok (.if_icmp .lt 5, 3) := by decide +kernel
theorem d_Gr_addVariable_17 : decode b_Gr_addVariable 17 = .ok (.iconst (-1), 1) := by decide +kernel
theorem d_Gr_addVariable_18 : decode b_Gr_addVariable 18 = .ok (.ireturn, 1) := by decide +kernel
theorem d_Gr_addVariable_19 : decode b_Gr_addVariable 19 = .ok (.aload_n 0, 1) := by decide +kernel
theorem d_Gr_addVariable_20 : decode b_Gr_addVariable 20 = .ok (.getfield 9, 3) := by decide +kernel
theorem d_Gr_addVariable_23 : decode b_Gr_addVariable 23 = .ok (.aload_n 0, 1) := by decide +kernel
theorem d_Gr_addVariable_24 : decode b_Gr_addVariable 24 = .ok (.getfield 40, 3) := by decide +kernel
theorem d_Gr_addVariable_27 : decode b_Gr_addVariable 27 = .ok (.iload_n 1, 1) := by decide +kernel
theorem d_Gr_addVariable_28 : decode b_Gr_addVariable 28 = .ok (.iastore, 1) := by decide +kernel
theorem d_Gr_addVariable_29 : decode b_Gr_addVariable 29 = .ok (.aload_n 0, 1) := by decide +kernel
theorem d_Gr_addVariable_30 : decode b_Gr_addVariable 30 = .ok (.dup, 1) := by decide +kernel
theorem d_Gr_addVariable_31 : decode b_Gr_addVariable 31 = .ok (.getfield 40, 3) := by decide +kernel
theorem d_Gr_addVariable_34 : decode b_Gr_addVariable 34 = .ok (.iconst 1, 1) := by decide +kernel
theorem d_Gr_addVariable_35 : decode b_Gr_addVariable 35 = .ok (.iadd, 1) := by decide +kernel
theorem d_Gr_addVariable_36 : decode b_Gr_addVariable 36 = .ok (.putfield 40, 3) := by decide +kernel
theorem d_Gr_addVariable_39 : decode b_Gr_addVariable 39 = .ok (.aload_n 0, 1) := by decide +kernel
theorem d_Gr_addVariable_40 : decode b_Gr_addVariable 40 = .ok (.getfield 40, 3) := by decide +kernel
theorem d_Gr_addVariable_43 : decode b_Gr_addVariable 43 = .ok (.iconst 1, 1) := by decide +kernel
theorem d_Gr_addVariable_44 : decode b_Gr_addVariable 44 = .ok (.isub, 1) := by decide +kernel
theorem d_Gr_addVariable_45 : decode b_Gr_addVariable 45 = .ok (.ireturn, 1) := by decide +kernel
theorem ml_Gr_61 : Cond.methodLink R_Gr 61 ⟨"RuleTrees$Grammar", "hasSort", "(I)Z"⟩ ∈ TB := tb_of 305 (by decide +kernel) (by decide +kernel)
theorem u_Gr_hasSort : (Cond.instanceMethod y_Gr_hasSort ∈ TB ∧ Cond.selects R_Gr y_Gr_hasSort y_Gr_hasSort ∈ TB) ∧ Cond.initialized R_Gr ∈ TB ∧ Cond.code y_Gr_hasSort b_Gr_hasSort 2 (some .boolean) ∈ TB := ⟨⟨(tb_of 306 (by decide +kernel) (by decide +kernel)), (tb_of 307 (by decide +kernel) (by decide +kernel))⟩, (tb_of 63 (by decide +kernel) (by decide +kernel)), k_Gr_hasSort⟩
abbrev rm_Gr_addVariable : Room := { frames := 1, cells := 0, slots := 0, locals := 21 }
def f_Gr_addVariable_0 (s_self : Nat → Nat → Int32) (v1 : Int32) : Option ((Int32) × (Nat → Nat → Int32)) :=
  bd1 (m_Gr_hasSort s_self v1) fun r_1 =>
  if r_1 = 0 then
    some (((-1)), s_self)
  else
    if (s_self 0 1) < 20 then
      ck (s_self 0 1) 20 <| nm (st2 s_self 1 (Int32.toNatClampNeg (s_self 0 1)) v1) fun s_self_6 =>
      nm (st2 s_self_6 0 1 ((s_self_6 0 1) + 1)) fun s_self_7 =>
      some (((s_self_7 0 1) - 1), s_self_7)
    else
      some (((-1)), s_self)
set_option maxHeartbeats 4000000 in
set_option maxRecDepth 100000 in
theorem t_Gr_addVariable_0 {p : Program} {l : Launch} {e : Env} {s : State} {m : MethodId} {args : Array Value} {below : List Frame} {meth : Method} {c : Code} {A : Nat → Prop} {D : va_G} {K : Nat → ClassId} (a_self : Nat → Nat) (X : gx p s m args c b_Gr_addVariable 2 R_Gr w_Gr_addVariable D classes (tyK K) A) (hr : meth.sig.returnType = some .int) (hlk : meth.locks = false) (r : Int32) (f_self : Nat → Nat → Int32) (s_self : Nat → Nat → Int32) (v1 : Int32) (h : f_Gr_addVariable_0 s_self v1 = some (r, f_self)) : Gd p l e rm_Gr_addVariable s m args below meth c 0 0 (MQ below (sq D classes (tyK K) (some (.int r)) (wd_Gr K a_self f_self) A) args s 0 0 A) D classes A 2 0 (wd_Gr K a_self s_self) [(0, .ref (a_self 0)), (1, .int v1)] [] := by
  unfold f_Gr_addVariable_0 at h
  refine gd_aload_n X d_Gr_addVariable_0 0 rfl ?_
  refine gd_iload_n X d_Gr_addVariable_1 1 rfl ?_
  obtain ⟨r_1, hc_2, h⟩ := bd1_e h
  refine gd_fI X (gd_V X (As := [.int v1]) (rest := []) (c_Gr_hasSort l D K a_self s_self v1 r_1 hc_2) 1 (gi_V ml_Gr_61 u_Gr_hasSort) rfl ⟨rfl, rfl⟩ (by decide +kernel) ⟨by decide, by decide⟩ (ci := 1) rfl rfl 0 rfl rfl rfl (Nat.le_of_ble_eq_true rfl) ⟨Nat.zero_le _, Nat.zero_le _⟩ d_Gr_addVariable_2) rfl ?_
  refine gd_if_eq X (tgt := 17) d_Gr_addVariable_5 (by decide) (fun c_3 => ?_) (fun c_3 => ?_)
  · replace h := it_p c_3 h
    refine gd_iconst X (v := (-1)) d_Gr_addVariable_17 (by decide) ?_
    cases h
    exact gd_iret X hr hlk d_Gr_addVariable_18
  · replace h := it_n c_3 h
    refine gd_aload_n X d_Gr_addVariable_8 0 rfl ?_
    refine gd_get X (ci := 1) (C := R_Gr) (T := F_Gr) (N := 12) (v := .int (s_self 0 1)) 0 rfl rfl (in_Gr _) 1 (by decide) (List.mem_cons_of_mem _ fl_Gr_40) rfl rfl d_Gr_addVariable_9 ?_
    refine gd_bipush X (v := 20) d_Gr_addVariable_12 (by decide) ?_
    refine gd_icmp_lt X (tgt := 19) d_Gr_addVariable_14 (by decide) (fun c_4 => ?_) (fun c_4 => ?_)
    · replace h := it_p c_4 h
      refine gd_aload_n X d_Gr_addVariable_19 0 rfl ?_
      refine gd_get X (ci := 1) (C := R_Gr) (T := F_Gr) (N := 12) (v := .ref (a_self 1)) 0 rfl rfl (in_Gr _) 5 (by decide) (List.mem_cons_of_mem _ fl_Gr_9) rfl rfl d_Gr_addVariable_20 ?_
      refine gd_aload_n X d_Gr_addVariable_23 0 rfl ?_
      refine gd_get X (ci := 1) (C := R_Gr) (T := F_Gr) (N := 12) (v := .int (s_self 0 1)) 0 rfl rfl (in_Gr _) 1 (by decide) (List.mem_cons_of_mem _ fl_Gr_40) rfl rfl d_Gr_addVariable_24 ?_
      refine gd_iload_n X d_Gr_addVariable_27 1 rfl ?_
      obtain ⟨hi_5, h⟩ := ck_e h
      obtain ⟨s_self_6, es_self_6, h⟩ := nm_e' h
      refine gd_iast X (w' := (wd_Gr K a_self s_self_6)) 1 0 rfl rfl hi_5 d_Gr_addVariable_28 (by rw [es_self_6]; rfl) ?_
      refine gd_aload_n X d_Gr_addVariable_29 0 rfl ?_
      refine gd_dup X d_Gr_addVariable_30 rfl ?_
      refine gd_get X (ci := 1) (C := R_Gr) (T := F_Gr) (N := 12) (v := .int (s_self_6 0 1)) 0 rfl rfl (in_Gr _) 1 (by decide) (List.mem_cons_of_mem _ fl_Gr_40) rfl rfl d_Gr_addVariable_31 ?_
      refine gd_iconst X (v := 1) d_Gr_addVariable_34 (by decide) ?_
      refine gd_iadd X d_Gr_addVariable_35 ?_
      obtain ⟨s_self_7, es_self_7, h⟩ := nm_e' h
      refine gd_put X (ci := 1) (C := R_Gr) (T := F_Gr) (N := 12) (ty := .int) (w' := (wd_Gr K a_self s_self_7)) 0 rfl rfl (in_Gr _) t_Gr t_Gr_ok n_Gr 1 (by decide) (List.mem_cons_of_mem _ fl_Gr_40) rfl rfl (by decide +kernel) rfl rfl (Nat.le_of_ble_eq_true rfl) d_Gr_addVariable_36 (by rw [es_self_7]; rfl) ?_
      refine gd_aload_n X d_Gr_addVariable_39 0 rfl ?_
      refine gd_get X (ci := 1) (C := R_Gr) (T := F_Gr) (N := 12) (v := .int (s_self_7 0 1)) 0 rfl rfl (in_Gr _) 1 (by decide) (List.mem_cons_of_mem _ fl_Gr_40) rfl rfl d_Gr_addVariable_40 ?_
      refine gd_iconst X (v := 1) d_Gr_addVariable_43 (by decide) ?_
      refine gd_isub X d_Gr_addVariable_44 ?_
      cases h
      exact gd_iret X hr hlk d_Gr_addVariable_45
    · replace h := it_n c_4 h
      refine gd_iconst X (v := (-1)) d_Gr_addVariable_17 (by decide) ?_
      cases h
      exact gd_iret X hr hlk d_Gr_addVariable_18
def m_Gr_addVariable (s_self : Nat → Nat → Int32) (v1 : Int32) : Option ((Int32) × (Nat → Nat → Int32)) := f_Gr_addVariable_0 s_self v1
set_option maxHeartbeats 4000000 in
set_option maxRecDepth 100000 in
theorem c_Gr_addVariable (l : Launch) (D : va_G) (K : Nat → ClassId) (a_self : Nat → Nat) (s_self : Nat → Nat → Int32) (v1 : Int32) (r : Int32) (f_self : Nat → Nat → Int32) (h : m_Gr_addVariable s_self v1 = some (r, f_self)) : SMet l y_Gr_addVariable w_Gr_addVariable rm_Gr_addVariable D classes (tyK K) [.ref (a_self 0), .int v1] (some (.int r)) (wd_Gr K a_self s_self) (wd_Gr K a_self f_self) := by
  refine sm_of R_Gr (by decide) rfl rfl (Nat.le_of_ble_eq_true rfl) ?_
  intro p e s m below meth c A X hr hlk
  refine gd_loc (lv' := [(0, .ref (a_self 0)), (1, .int v1)]) [0, 1] rfl ?_
  exact t_Gr_addVariable_0 a_self X hr hlk r f_self s_self v1 h
abbrev b_Gr_beginRule : ByteArray := prog_3_method_16_code
def y_Gr_beginRule : MethodName := ⟨R_Gr, "beginRule", "(I)Z"⟩
def w_Gr_beginRule : List Cond := .code y_Gr_beginRule b_Gr_beginRule 2 (some .boolean) :: TB
theorem k_Gr_beginRule : Cond.code y_Gr_beginRule b_Gr_beginRule 2 (some .boolean) ∈ TB := tb_of 316 (by decide +kernel) (by decide +kernel)
theorem d_Gr_beginRule_0 : decode b_Gr_beginRule 0 = .ok (.aload_n 0, 1) := by decide +kernel
theorem d_Gr_beginRule_1 : decode b_Gr_beginRule 1 = .ok (.getfield 57, 3) := by decide +kernel
theorem d_Gr_beginRule_4 : decode b_Gr_beginRule 4 = .ok (.ifCond .ne 20, 3) := by decide +kernel
theorem d_Gr_beginRule_7 : decode b_Gr_beginRule 7 = .ok (.aload_n 0, 1) := by decide +kernel
theorem d_Gr_beginRule_8 : decode b_Gr_beginRule 8 = .ok (.iload_n 1, 1) := by decide +kernel
theorem d_Gr_beginRule_9 : decode b_Gr_beginRule 9 = .ok (.invokevirtual 61, 3) := by decide +kernel
theorem d_Gr_beginRule_12 : decode b_Gr_beginRule 12 = .ok (.ifCond .eq 12, 3) := by decide +kernel
theorem d_Gr_beginRule_15 : decode b_Gr_beginRule 15 = .ok (.aload_n 0, 1) := by decide +kernel
theorem d_Gr_beginRule_16 : decode b_Gr_beginRule 16 = .ok (.getfield 37, 3) := by decide +kernel
theorem d_Gr_beginRule_19 : decode b_Gr_beginRule 19 = .ok (.bipush 30, 2) := by decide +kernel
theorem d_Gr_beginRule_21 : decode b_Gr_beginRule 21 = .ok (.if_icmp .lt 5, 3) := by decide +kernel
theorem d_Gr_beginRule_24 : decode b_Gr_beginRule 24 = .ok (.iconst 0, 1) := by decide +kernel
theorem d_Gr_beginRule_25 : decode b_Gr_beginRule 25 = .ok (.ireturn, 1) := by decide +kernel
theorem d_Gr_beginRule_26 : decode b_Gr_beginRule 26 = .ok (.aload_n 0, 1) := by decide +kernel
theorem d_Gr_beginRule_27 : decode b_Gr_beginRule 27 = .ok (.iconst 1, 1) := by decide +kernel
theorem d_Gr_beginRule_28 : decode b_Gr_beginRule 28 = .ok (.putfield 57, 3) := by decide +kernel
theorem d_Gr_beginRule_31 : decode b_Gr_beginRule 31 = .ok (.aload_n 0, 1) := by decide +kernel
theorem d_Gr_beginRule_32 : decode b_Gr_beginRule 32 = .ok (.iconst 0, 1) := by decide +kernel
theorem d_Gr_beginRule_33 : decode b_Gr_beginRule 33 = .ok (.putfield 64, 3) := by decide +kernel
theorem d_Gr_beginRule_36 : decode b_Gr_beginRule 36 = .ok (.aload_n 0, 1) := by decide +kernel
theorem d_Gr_beginRule_37 : decode b_Gr_beginRule 37 = .ok (.getfield 15, 3) := by decide +kernel
theorem d_Gr_beginRule_40 : decode b_Gr_beginRule 40 = .ok (.aload_n 0, 1) := by decide +kernel
theorem d_Gr_beginRule_41 : decode b_Gr_beginRule 41 = .ok (.getfield 37, 3) := by decide +kernel
theorem d_Gr_beginRule_44 : decode b_Gr_beginRule 44 = .ok (.iload_n 1, 1) := by decide +kernel
theorem d_Gr_beginRule_45 : decode b_Gr_beginRule 45 = .ok (.iastore, 1) := by decide +kernel
theorem d_Gr_beginRule_46 : decode b_Gr_beginRule 46 = .ok (.aload_n 0, 1) := by decide +kernel
theorem d_Gr_beginRule_47 : decode b_Gr_beginRule 47 = .ok (.getfield 18, 3) := by decide +kernel
theorem d_Gr_beginRule_50 : decode b_Gr_beginRule 50 = .ok (.aload_n 0, 1) := by decide +kernel
theorem d_Gr_beginRule_51 : decode b_Gr_beginRule 51 = .ok (.getfield 37, 3) := by decide +kernel
theorem d_Gr_beginRule_54 : decode b_Gr_beginRule 54 = .ok (.iconst 0, 1) := by decide +kernel
theorem d_Gr_beginRule_55 : decode b_Gr_beginRule 55 = .ok (.iastore, 1) := by decide +kernel
theorem d_Gr_beginRule_56 : decode b_Gr_beginRule 56 = .ok (.aload_n 0, 1) := by decide +kernel
theorem d_Gr_beginRule_57 : decode b_Gr_beginRule 57 = .ok (.getfield 27, 3) := by decide +kernel
theorem d_Gr_beginRule_60 : decode b_Gr_beginRule 60 = .ok (.aload_n 0, 1) := by decide +kernel
theorem d_Gr_beginRule_61 : decode b_Gr_beginRule 61 = .ok (.getfield 37, 3) := by decide +kernel
theorem d_Gr_beginRule_64 : decode b_Gr_beginRule 64 = .ok (.iconst 0, 1) := by decide +kernel
theorem d_Gr_beginRule_65 : decode b_Gr_beginRule 65 = .ok (.iastore, 1) := by decide +kernel
theorem d_Gr_beginRule_66 : decode b_Gr_beginRule 66 = .ok (.iconst 1, 1) := by decide +kernel
theorem d_Gr_beginRule_67 : decode b_Gr_beginRule 67 = .ok (.ireturn, 1) := by decide +kernel
theorem fl_Gr_64 : Cond.fieldLink R_Gr 64 "RuleTrees$Grammar" "begunVariables" "I" ∈ TB := tb_of 95 (by decide +kernel) (by decide +kernel)
abbrev rm_Gr_beginRule : Room := { frames := 1, cells := 0, slots := 0, locals := 21 }
def f_Gr_beginRule_0 (s_self : Nat → Nat → Int32) (v1 : Int32) : Option ((Int32) × (Nat → Nat → Int32)) :=
  if (s_self 0 3) = 0 then
    bd1 (m_Gr_hasSort s_self v1) fun r_2 =>
    if r_2 = 0 then
      some ((0), s_self)
    else
      if (s_self 0 2) < 30 then
        nm (st2 s_self 0 3 1) fun s_self_6 =>
        nm (st2 s_self_6 0 4 0) fun s_self_7 =>
        ck (s_self_7 0 2) 30 <| nm (st2 s_self_7 2 (Int32.toNatClampNeg (s_self_7 0 2)) v1) fun s_self_9 =>
        ck (s_self_9 0 2) 30 <| nm (st2 s_self_9 3 (Int32.toNatClampNeg (s_self_9 0 2)) 0) fun s_self_11 =>
        ck (s_self_11 0 2) 30 <| nm (st2 s_self_11 6 (Int32.toNatClampNeg (s_self_11 0 2)) 0) fun s_self_13 =>
        some ((1), s_self_13)
      else
        some ((0), s_self)
  else
    some ((0), s_self)
set_option maxHeartbeats 4000000 in
set_option maxRecDepth 100000 in
theorem t_Gr_beginRule_0 {p : Program} {l : Launch} {e : Env} {s : State} {m : MethodId} {args : Array Value} {below : List Frame} {meth : Method} {c : Code} {A : Nat → Prop} {D : va_G} {K : Nat → ClassId} (a_self : Nat → Nat) (X : gx p s m args c b_Gr_beginRule 2 R_Gr w_Gr_beginRule D classes (tyK K) A) (hr : meth.sig.returnType = some .boolean) (hlk : meth.locks = false) (r : Int32) (f_self : Nat → Nat → Int32) (s_self : Nat → Nat → Int32) (v1 : Int32) (h : f_Gr_beginRule_0 s_self v1 = some (r, f_self)) : Gd p l e rm_Gr_beginRule s m args below meth c 0 0 (MQ below (sq D classes (tyK K) (some (.int r)) (wd_Gr K a_self f_self) A) args s 0 0 A) D classes A 2 0 (wd_Gr K a_self s_self) [(0, .ref (a_self 0)), (1, .int v1)] [] := by
  unfold f_Gr_beginRule_0 at h
  refine gd_aload_n X d_Gr_beginRule_0 0 rfl ?_
  refine gd_get X (ci := 1) (C := R_Gr) (T := F_Gr) (N := 12) (v := .int (s_self 0 3)) 0 rfl rfl (in_Gr _) 3 (by decide) (List.mem_cons_of_mem _ fl_Gr_57) rfl rfl d_Gr_beginRule_1 ?_
  refine gd_if_ne X (tgt := 24) d_Gr_beginRule_4 (by decide) (fun c_1 => ?_) (fun c_1 => ?_)
  · replace h := it_n c_1 h
    refine gd_iconst X (v := 0) d_Gr_beginRule_24 (by decide) ?_
    cases h
    exact gd_zret X hr hlk (by decide) d_Gr_beginRule_25
  · replace h := it_p c_1 h
    refine gd_aload_n X d_Gr_beginRule_7 0 rfl ?_
    refine gd_iload_n X d_Gr_beginRule_8 1 rfl ?_
    obtain ⟨r_2, hc_3, h⟩ := bd1_e h
    refine gd_fI X (gd_V X (As := [.int v1]) (rest := []) (c_Gr_hasSort l D K a_self s_self v1 r_2 hc_3) 1 (gi_V ml_Gr_61 u_Gr_hasSort) rfl ⟨rfl, rfl⟩ (by decide +kernel) ⟨by decide, by decide⟩ (ci := 1) rfl rfl 0 rfl rfl rfl (Nat.le_of_ble_eq_true rfl) ⟨Nat.zero_le _, Nat.zero_le _⟩ d_Gr_beginRule_9) rfl ?_
    refine gd_if_eq X (tgt := 24) d_Gr_beginRule_12 (by decide) (fun c_4 => ?_) (fun c_4 => ?_)
    · replace h := it_p c_4 h
      refine gd_iconst X (v := 0) d_Gr_beginRule_24 (by decide) ?_
      cases h
      exact gd_zret X hr hlk (by decide) d_Gr_beginRule_25
    · replace h := it_n c_4 h
      refine gd_aload_n X d_Gr_beginRule_15 0 rfl ?_
      refine gd_get X (ci := 1) (C := R_Gr) (T := F_Gr) (N := 12) (v := .int (s_self 0 2)) 0 rfl rfl (in_Gr _) 2 (by decide) (List.mem_cons_of_mem _ fl_Gr_37) rfl rfl d_Gr_beginRule_16 ?_
      refine gd_bipush X (v := 30) d_Gr_beginRule_19 (by decide) ?_
      refine gd_icmp_lt X (tgt := 26) d_Gr_beginRule_21 (by decide) (fun c_5 => ?_) (fun c_5 => ?_)
      · replace h := it_p c_5 h
        refine gd_aload_n X d_Gr_beginRule_26 0 rfl ?_
        refine gd_iconst X (v := 1) d_Gr_beginRule_27 (by decide) ?_
        obtain ⟨s_self_6, es_self_6, h⟩ := nm_e' h
        refine gd_put X (ci := 1) (C := R_Gr) (T := F_Gr) (N := 12) (ty := .boolean) (w' := (wd_Gr K a_self s_self_6)) 0 rfl rfl (in_Gr _) t_Gr t_Gr_ok n_Gr 3 (by decide) (List.mem_cons_of_mem _ fl_Gr_57) rfl rfl (by decide +kernel) (by decide) (by decide) (Nat.le_of_ble_eq_true rfl) d_Gr_beginRule_28 (by rw [es_self_6]; rfl) ?_
        refine gd_aload_n X d_Gr_beginRule_31 0 rfl ?_
        refine gd_iconst X (v := 0) d_Gr_beginRule_32 (by decide) ?_
        obtain ⟨s_self_7, es_self_7, h⟩ := nm_e' h
        refine gd_put X (ci := 1) (C := R_Gr) (T := F_Gr) (N := 12) (ty := .int) (w' := (wd_Gr K a_self s_self_7)) 0 rfl rfl (in_Gr _) t_Gr t_Gr_ok n_Gr 4 (by decide) (List.mem_cons_of_mem _ fl_Gr_64) rfl rfl (by decide +kernel) rfl rfl (Nat.le_of_ble_eq_true rfl) d_Gr_beginRule_33 (by rw [es_self_7]; rfl) ?_
        refine gd_aload_n X d_Gr_beginRule_36 0 rfl ?_
        refine gd_get X (ci := 1) (C := R_Gr) (T := F_Gr) (N := 12) (v := .ref (a_self 2)) 0 rfl rfl (in_Gr _) 6 (by decide) (List.mem_cons_of_mem _ fl_Gr_15) rfl rfl d_Gr_beginRule_37 ?_
        refine gd_aload_n X d_Gr_beginRule_40 0 rfl ?_
        refine gd_get X (ci := 1) (C := R_Gr) (T := F_Gr) (N := 12) (v := .int (s_self_7 0 2)) 0 rfl rfl (in_Gr _) 2 (by decide) (List.mem_cons_of_mem _ fl_Gr_37) rfl rfl d_Gr_beginRule_41 ?_
        refine gd_iload_n X d_Gr_beginRule_44 1 rfl ?_
        obtain ⟨hi_8, h⟩ := ck_e h
        obtain ⟨s_self_9, es_self_9, h⟩ := nm_e' h
        refine gd_iast X (w' := (wd_Gr K a_self s_self_9)) 2 0 rfl rfl hi_8 d_Gr_beginRule_45 (by rw [es_self_9]; rfl) ?_
        refine gd_aload_n X d_Gr_beginRule_46 0 rfl ?_
        refine gd_get X (ci := 1) (C := R_Gr) (T := F_Gr) (N := 12) (v := .ref (a_self 3)) 0 rfl rfl (in_Gr _) 7 (by decide) (List.mem_cons_of_mem _ fl_Gr_18) rfl rfl d_Gr_beginRule_47 ?_
        refine gd_aload_n X d_Gr_beginRule_50 0 rfl ?_
        refine gd_get X (ci := 1) (C := R_Gr) (T := F_Gr) (N := 12) (v := .int (s_self_9 0 2)) 0 rfl rfl (in_Gr _) 2 (by decide) (List.mem_cons_of_mem _ fl_Gr_37) rfl rfl d_Gr_beginRule_51 ?_
        refine gd_iconst X (v := 0) d_Gr_beginRule_54 (by decide) ?_
        obtain ⟨hi_10, h⟩ := ck_e h
        obtain ⟨s_self_11, es_self_11, h⟩ := nm_e' h
        refine gd_iast X (w' := (wd_Gr K a_self s_self_11)) 3 0 rfl rfl hi_10 d_Gr_beginRule_55 (by rw [es_self_11]; rfl) ?_
        refine gd_aload_n X d_Gr_beginRule_56 0 rfl ?_
        refine gd_get X (ci := 1) (C := R_Gr) (T := F_Gr) (N := 12) (v := .ref (a_self 6)) 0 rfl rfl (in_Gr _) 10 (by decide) (List.mem_cons_of_mem _ fl_Gr_27) rfl rfl d_Gr_beginRule_57 ?_
        refine gd_aload_n X d_Gr_beginRule_60 0 rfl ?_
        refine gd_get X (ci := 1) (C := R_Gr) (T := F_Gr) (N := 12) (v := .int (s_self_11 0 2)) 0 rfl rfl (in_Gr _) 2 (by decide) (List.mem_cons_of_mem _ fl_Gr_37) rfl rfl d_Gr_beginRule_61 ?_
        refine gd_iconst X (v := 0) d_Gr_beginRule_64 (by decide) ?_
        obtain ⟨hi_12, h⟩ := ck_e h
        obtain ⟨s_self_13, es_self_13, h⟩ := nm_e' h
        refine gd_iast X (w' := (wd_Gr K a_self s_self_13)) 6 0 rfl rfl hi_12 d_Gr_beginRule_65 (by rw [es_self_13]; rfl) ?_
        refine gd_iconst X (v := 1) d_Gr_beginRule_66 (by decide) ?_
        cases h
        exact gd_zret X hr hlk (by decide) d_Gr_beginRule_67
      · replace h := it_n c_5 h
        refine gd_iconst X (v := 0) d_Gr_beginRule_24 (by decide) ?_
        cases h
        exact gd_zret X hr hlk (by decide) d_Gr_beginRule_25
def m_Gr_beginRule (s_self : Nat → Nat → Int32) (v1 : Int32) : Option ((Int32) × (Nat → Nat → Int32)) := f_Gr_beginRule_0 s_self v1
set_option maxHeartbeats 4000000 in
set_option maxRecDepth 100000 in
theorem c_Gr_beginRule (l : Launch) (D : va_G) (K : Nat → ClassId) (a_self : Nat → Nat) (s_self : Nat → Nat → Int32) (v1 : Int32) (r : Int32) (f_self : Nat → Nat → Int32) (h : m_Gr_beginRule s_self v1 = some (r, f_self)) : SMet l y_Gr_beginRule w_Gr_beginRule rm_Gr_beginRule D classes (tyK K) [.ref (a_self 0), .int v1] (some (.int r)) (wd_Gr K a_self s_self) (wd_Gr K a_self f_self) := by
  refine sm_of R_Gr (by decide) rfl rfl (Nat.le_of_ble_eq_true rfl) ?_
  intro p e s m below meth c A X hr hlk
  refine gd_loc (lv' := [(0, .ref (a_self 0)), (1, .int v1)]) [0, 1] rfl ?_
  exact t_Gr_beginRule_0 a_self X hr hlk r f_self s_self v1 h
abbrev b_Gr_slotInBegun : ByteArray := prog_3_method_19_code
def y_Gr_slotInBegun : MethodName := ⟨R_Gr, "slotInBegun", "(I)I"⟩
def w_Gr_slotInBegun : List Cond := .code y_Gr_slotInBegun b_Gr_slotInBegun 4 (some .int) :: TB
theorem k_Gr_slotInBegun : Cond.code y_Gr_slotInBegun b_Gr_slotInBegun 4 (some .int) ∈ TB := tb_of 332 (by decide +kernel) (by decide +kernel)
theorem d_Gr_slotInBegun_0 : decode b_Gr_slotInBegun 0 = .ok (.aload_n 0, 1) := by decide +kernel
theorem d_Gr_slotInBegun_1 : decode b_Gr_slotInBegun 1 = .ok (.getfield 37, 3) := by decide +kernel
theorem d_Gr_slotInBegun_4 : decode b_Gr_slotInBegun 4 = .ok (.bipush 8, 2) := by decide +kernel
theorem d_Gr_slotInBegun_6 : decode b_Gr_slotInBegun 6 = .ok (.imul, 1) := by decide +kernel
theorem d_Gr_slotInBegun_7 : decode b_Gr_slotInBegun 7 = .ok (.istore_n 2, 1) := by decide +kernel
theorem d_Gr_slotInBegun_8 : decode b_Gr_slotInBegun 8 = .ok (.iconst 0, 1) := by decide +kernel
theorem d_Gr_slotInBegun_9 : decode b_Gr_slotInBegun 9 = .ok (.istore_n 3, 1) := by decide +kernel
theorem d_Gr_slotInBegun_10 : decode b_Gr_slotInBegun 10 = .ok (.iload_n 3, 1) := by decide +kernel
theorem d_Gr_slotInBegun_11 : decode b_Gr_slotInBegun 11 = .ok (.aload_n 0, 1) := by decide +kernel
theorem d_Gr_slotInBegun_12 : decode b_Gr_slotInBegun 12 = .ok (.getfield 18, 3) := by decide +kernel
theorem d_Gr_slotInBegun_15 : decode b_Gr_slotInBegun 15 = .ok (.aload_n 0, 1) := by decide +kernel
theorem d_Gr_slotInBegun_16 : decode b_Gr_slotInBegun 16 = .ok (.getfield 37, 3) := by decide +kernel
theorem d_Gr_slotInBegun_19 : decode b_Gr_slotInBegun 19 = .ok (.iaload, 1) := by decide +kernel
theorem d_Gr_slotInBegun_20 : decode b_Gr_slotInBegun 20 = .ok (.if_icmp .ge 30, 3) := by decide +kernel
theorem d_Gr_slotInBegun_23 : decode b_Gr_slotInBegun 23 = .ok (.aload_n 0, 1) := by decide +kernel
theorem d_Gr_slotInBegun_24 : decode b_Gr_slotInBegun 24 = .ok (.getfield 21, 3) := by decide +kernel
theorem d_Gr_slotInBegun_27 : decode b_Gr_slotInBegun 27 = .ok (.iload_n 2, 1) := by decide +kernel
theorem d_Gr_slotInBegun_28 : decode b_Gr_slotInBegun 28 = .ok (.iload_n 3, 1) := by decide +kernel
theorem d_Gr_slotInBegun_29 : decode b_Gr_slotInBegun 29 = .ok (.iadd, 1) := by decide +kernel
theorem d_Gr_slotInBegun_30 : decode b_Gr_slotInBegun 30 = .ok (.iaload, 1) := by decide +kernel
theorem d_Gr_slotInBegun_31 : decode b_Gr_slotInBegun 31 = .ok (.iload_n 1, 1) := by decide +kernel
theorem d_Gr_slotInBegun_32 : decode b_Gr_slotInBegun 32 = .ok (.if_icmp .ne 12, 3) := by decide +kernel
theorem d_Gr_slotInBegun_35 : decode b_Gr_slotInBegun 35 = .ok (.aload_n 0, 1) := by decide +kernel
theorem d_Gr_slotInBegun_36 : decode b_Gr_slotInBegun 36 = .ok (.getfield 24, 3) := by decide +kernel
theorem d_Gr_slotInBegun_39 : decode b_Gr_slotInBegun 39 = .ok (.iload_n 2, 1) := by decide +kernel
theorem d_Gr_slotInBegun_40 : decode b_Gr_slotInBegun 40 = .ok (.iload_n 3, 1) := by decide +kernel
theorem d_Gr_slotInBegun_41 : decode b_Gr_slotInBegun 41 = .ok (.iadd, 1) := by decide +kernel
theorem d_Gr_slotInBegun_42 : decode b_Gr_slotInBegun 42 = .ok (.iaload, 1) := by decide +kernel
theorem d_Gr_slotInBegun_43 : decode b_Gr_slotInBegun 43 = .ok (.ireturn, 1) := by decide +kernel
theorem d_Gr_slotInBegun_44 : decode b_Gr_slotInBegun 44 = .ok (.iinc 3 1, 3) := by decide +kernel
theorem d_Gr_slotInBegun_47 : decode b_Gr_slotInBegun 47 = .ok (.goto (-37), 3) := by decide +kernel
theorem d_Gr_slotInBegun_50 : decode b_Gr_slotInBegun 50 = .ok (.aload_n 0, 1) := by decide +kernel
theorem d_Gr_slotInBegun_51 : decode b_Gr_slotInBegun 51 = .ok (.getfield 27, 3) := by decide +kernel
theorem d_Gr_slotInBegun_54 : decode b_Gr_slotInBegun 54 = .ok (.aload_n 0, 1) := by decide +kernel
theorem d_Gr_slotInBegun_55 : decode b_Gr_slotInBegun 55 = .ok (.getfield 37, 3) := by decide +kernel
theorem d_Gr_slotInBegun_58 : decode b_Gr_slotInBegun 58 = .ok (.iaload, 1) := by decide +kernel
theorem d_Gr_slotInBegun_59 : decode b_Gr_slotInBegun 59 = .ok (.istore_n 3, 1) := by decide +kernel
theorem d_Gr_slotInBegun_60 : decode b_Gr_slotInBegun 60 = .ok (.iload_n 3, 1) := by decide +kernel
theorem d_Gr_slotInBegun_61 : decode b_Gr_slotInBegun 61 = .ok (.iconst 4, 1) := by decide +kernel
theorem d_Gr_slotInBegun_62 : decode b_Gr_slotInBegun 62 = .ok (.if_icmp .lt 5, 3) := by decide +kernel
theorem d_Gr_slotInBegun_65 : decode b_Gr_slotInBegun 65 = .ok (.iconst (-1), 1) := by decide +kernel
theorem d_Gr_slotInBegun_66 : decode b_Gr_slotInBegun 66 = .ok (.ireturn, 1) := by decide +kernel
theorem d_Gr_slotInBegun_67 : decode b_Gr_slotInBegun 67 = .ok (.aload_n 0, 1) := by decide +kernel
theorem d_Gr_slotInBegun_68 : decode b_Gr_slotInBegun 68 = .ok (.getfield 30, 3) := by decide +kernel
theorem d_Gr_slotInBegun_71 : decode b_Gr_slotInBegun 71 = .ok (.aload_n 0, 1) := by decide +kernel
theorem d_Gr_slotInBegun_72 : decode b_Gr_slotInBegun 72 = .ok (.getfield 37, 3) := by decide +kernel
theorem d_Gr_slotInBegun_75 : decode b_Gr_slotInBegun 75 = .ok (.iconst 4, 1) := by decide +kernel
theorem d_Gr_slotInBegun_76 : decode b_Gr_slotInBegun 76 = .ok (.imul, 1) := by decide +kernel
theorem d_Gr_slotInBegun_77 : decode b_Gr_slotInBegun 77 = .ok (.iload_n 3, 1) := by decide +kernel
theorem d_Gr_slotInBegun_78 : decode b_Gr_slotInBegun 78 = .ok (.iadd, 1) := by decide +kernel
theorem d_Gr_slotInBegun_79 : decode b_Gr_slotInBegun 79 = .ok (.aload_n 0, 1) := by decide +kernel
theorem d_Gr_slotInBegun_80 : decode b_Gr_slotInBegun 80 = .ok (.getfield 9, 3) := by decide +kernel
theorem d_Gr_slotInBegun_83 : decode b_Gr_slotInBegun 83 = .ok (.iconst (-1), 1) := by decide +kernel
theorem d_Gr_slotInBegun_84 : decode b_Gr_slotInBegun 84 = .ok (.iload_n 1, 1) := by decide +kernel
theorem d_Gr_slotInBegun_85 : decode b_Gr_slotInBegun 85 = .ok (.isub, 1) := by decide +kernel
theorem d_Gr_slotInBegun_86 : decode b_Gr_slotInBegun 86 = .ok (.iaload, 1) := by decide +kernel
theorem d_Gr_slotInBegun_87 : decode b_Gr_slotInBegun 87 = .ok (.iastore, 1) := by decide +kernel
theorem d_Gr_slotInBegun_88 : decode b_Gr_slotInBegun 88 = .ok (.aload_n 0, 1) := by decide +kernel
theorem d_Gr_slotInBegun_89 : decode b_Gr_slotInBegun 89 = .ok (.getfield 27, 3) := by decide +kernel
theorem d_Gr_slotInBegun_92 : decode b_Gr_slotInBegun 92 = .ok (.aload_n 0, 1) := by decide +kernel
theorem d_Gr_slotInBegun_93 : decode b_Gr_slotInBegun 93 = .ok (.getfield 37, 3) := by decide +kernel
theorem d_Gr_slotInBegun_96 : decode b_Gr_slotInBegun 96 = .ok (.iload_n 3, 1) := by decide +kernel
theorem d_Gr_slotInBegun_97 : decode b_Gr_slotInBegun 97 = .ok (.iconst 1, 1) := by decide +kernel
theorem d_Gr_slotInBegun_98 : decode b_Gr_slotInBegun 98 = .ok (.iadd, 1) := by decide +kernel
theorem d_Gr_slotInBegun_99 : decode b_Gr_slotInBegun 99 = .ok (.iastore, 1) := by decide +kernel
theorem d_Gr_slotInBegun_100 : decode b_Gr_slotInBegun 100 = .ok (.iload_n 3, 1) := by decide +kernel
theorem d_Gr_slotInBegun_101 : decode b_Gr_slotInBegun 101 = .ok (.ireturn, 1) := by decide +kernel
abbrev rm_Gr_slotInBegun : Room := { frames := 0, cells := 0, slots := 0, locals := 0 }
def f_Gr_slotInBegun_10 (N : Nat) (kb : Int32 → Option ((Int32) × (Nat → Nat → Int32))) (kx35 : Int32 → Option ((Int32) × (Nat → Nat → Int32))) (kx50 : Option ((Int32) × (Nat → Nat → Int32))) (s_self : Nat → Nat → Int32) (v1 v2 v3 : Int32) : Option ((Int32) × (Nat → Nat → Int32)) :=
  ck (s_self 0 2) 30 <|
  if (s_self 3 (Int32.toNatClampNeg (s_self 0 2))) ≤ v3 then
    kx50
  else
    ck (v2 + v3) 240 <|
    if (s_self 4 (Int32.toNatClampNeg (v2 + v3))) = v1 then
      kx35 v3
    else
      nm (v3 + 1) fun v3_5 =>
      kb v3_5
set_option maxHeartbeats 4000000 in
set_option maxRecDepth 100000 in
theorem t_Gr_slotInBegun_10 {p : Program} {l : Launch} {e : Env} {s : State} {m : MethodId} {args : Array Value} {below : List Frame} {meth : Method} {c : Code} {A : Nat → Prop} {D : va_G} {K : Nat → ClassId} (a_self : Nat → Nat) (X : gx p s m args c b_Gr_slotInBegun 4 R_Gr w_Gr_slotInBegun D classes (tyK K) A) (hr : meth.sig.returnType = some .int) (hlk : meth.locks = false) (N : Nat) (r : Int32) (f_self : Nat → Nat → Int32) (s_self : Nat → Nat → Int32) (v1 v2 v3 : Int32) (kb : Int32 → Option ((Int32) × (Nat → Nat → Int32))) (hkb : ∀ (v3 : Int32), kb v3 = some (r, f_self) → Gd p l e rm_Gr_slotInBegun s m args below meth c 0 0 (MQ below (sq D classes (tyK K) (some (.int r)) (wd_Gr K a_self f_self) A) args s 0 0 A) D classes A 4 10 (wd_Gr K a_self s_self) [(0, .ref (a_self 0)), (1, .int v1), (2, .int v2), (3, .int v3)] []) (kx35 : Int32 → Option ((Int32) × (Nat → Nat → Int32))) (hkx35 : ∀ (v3 : Int32), kx35 v3 = some (r, f_self) → Gd p l e rm_Gr_slotInBegun s m args below meth c 0 0 (MQ below (sq D classes (tyK K) (some (.int r)) (wd_Gr K a_self f_self) A) args s 0 0 A) D classes A 4 35 (wd_Gr K a_self s_self) [(0, .ref (a_self 0)), (2, .int v2), (3, .int v3)] []) (kx50 : Option ((Int32) × (Nat → Nat → Int32))) (hkx50 : kx50 = some (r, f_self) → Gd p l e rm_Gr_slotInBegun s m args below meth c 0 0 (MQ below (sq D classes (tyK K) (some (.int r)) (wd_Gr K a_self f_self) A) args s 0 0 A) D classes A 4 50 (wd_Gr K a_self s_self) [(0, .ref (a_self 0)), (1, .int v1)] []) (h : f_Gr_slotInBegun_10 N kb kx35 kx50 s_self v1 v2 v3 = some (r, f_self)) : Gd p l e rm_Gr_slotInBegun s m args below meth c 0 0 (MQ below (sq D classes (tyK K) (some (.int r)) (wd_Gr K a_self f_self) A) args s 0 0 A) D classes A 4 10 (wd_Gr K a_self s_self) [(0, .ref (a_self 0)), (1, .int v1), (2, .int v2), (3, .int v3)] [] := by
  unfold f_Gr_slotInBegun_10 at h
  refine gd_iload_n X d_Gr_slotInBegun_10 3 rfl ?_
  refine gd_aload_n X d_Gr_slotInBegun_11 0 rfl ?_
  refine gd_get X (ci := 1) (C := R_Gr) (T := F_Gr) (N := 12) (v := .ref (a_self 3)) 0 rfl rfl (in_Gr _) 7 (by decide) (List.mem_cons_of_mem _ fl_Gr_18) rfl rfl d_Gr_slotInBegun_12 ?_
  refine gd_aload_n X d_Gr_slotInBegun_15 0 rfl ?_
  refine gd_get X (ci := 1) (C := R_Gr) (T := F_Gr) (N := 12) (v := .int (s_self 0 2)) 0 rfl rfl (in_Gr _) 2 (by decide) (List.mem_cons_of_mem _ fl_Gr_37) rfl rfl d_Gr_slotInBegun_16 ?_
  obtain ⟨hi_1, h⟩ := ck_e h
  refine gd_iald X 3 0 rfl rfl hi_1 d_Gr_slotInBegun_19 ?_
  refine gd_icmp_ge X (tgt := 50) d_Gr_slotInBegun_20 (by decide) (fun c_2 => ?_) (fun c_2 => ?_)
  · replace h := it_p c_2 h
    refine gd_loc (lv' := [(0, .ref (a_self 0)), (1, .int v1)]) [0, 1] rfl ?_
    exact hkx50 h
  · replace h := it_n c_2 h
    refine gd_aload_n X d_Gr_slotInBegun_23 0 rfl ?_
    refine gd_get X (ci := 1) (C := R_Gr) (T := F_Gr) (N := 12) (v := .ref (a_self 4)) 0 rfl rfl (in_Gr _) 8 (by decide) (List.mem_cons_of_mem _ fl_Gr_21) rfl rfl d_Gr_slotInBegun_24 ?_
    refine gd_iload_n X d_Gr_slotInBegun_27 2 rfl ?_
    refine gd_iload_n X d_Gr_slotInBegun_28 3 rfl ?_
    refine gd_iadd X d_Gr_slotInBegun_29 ?_
    obtain ⟨hi_3, h⟩ := ck_e h
    refine gd_iald X 4 0 rfl rfl hi_3 d_Gr_slotInBegun_30 ?_
    refine gd_iload_n X d_Gr_slotInBegun_31 1 rfl ?_
    refine gd_icmp_ne X (tgt := 44) d_Gr_slotInBegun_32 (by decide) (fun c_4 => ?_) (fun c_4 => ?_)
    · replace h := it_n c_4 h
      obtain ⟨v3_5, ev3_5, h⟩ := nm_e' h
      refine gd_iinc X (v := v3_5) (lv' := [(3, .int v3_5), (0, .ref (a_self 0)), (1, .int v1), (2, .int v2)]) d_Gr_slotInBegun_44 (k := 3) rfl (by rw [ev3_5]; rfl) (by decide) rfl ?_
      refine gd_goto X (tgt := 10) d_Gr_slotInBegun_47 (by decide) ?_
      refine gd_loc (lv' := [(0, .ref (a_self 0)), (1, .int v1), (2, .int v2), (3, .int v3_5)]) [1, 2, 3, 0] rfl ?_
      exact hkb v3_5 h
    · replace h := it_p c_4 h
      refine gd_loc (lv' := [(0, .ref (a_self 0)), (2, .int v2), (3, .int v3)]) [0, 2, 3] rfl ?_
      exact hkx35 v3 h
def f_Gr_slotInBegun_35 (N : Nat) (s_self : Nat → Nat → Int32) (v2 v3 : Int32) : Option ((Int32) × (Nat → Nat → Int32)) :=
  ck (v2 + v3) 240 <|
  some ((s_self 5 (Int32.toNatClampNeg (v2 + v3))), s_self)
set_option maxHeartbeats 4000000 in
set_option maxRecDepth 100000 in
theorem t_Gr_slotInBegun_35 {p : Program} {l : Launch} {e : Env} {s : State} {m : MethodId} {args : Array Value} {below : List Frame} {meth : Method} {c : Code} {A : Nat → Prop} {D : va_G} {K : Nat → ClassId} (a_self : Nat → Nat) (X : gx p s m args c b_Gr_slotInBegun 4 R_Gr w_Gr_slotInBegun D classes (tyK K) A) (hr : meth.sig.returnType = some .int) (hlk : meth.locks = false) (N : Nat) (r : Int32) (f_self : Nat → Nat → Int32) (s_self : Nat → Nat → Int32) (v2 v3 : Int32) (h : f_Gr_slotInBegun_35 N s_self v2 v3 = some (r, f_self)) : Gd p l e rm_Gr_slotInBegun s m args below meth c 0 0 (MQ below (sq D classes (tyK K) (some (.int r)) (wd_Gr K a_self f_self) A) args s 0 0 A) D classes A 4 35 (wd_Gr K a_self s_self) [(0, .ref (a_self 0)), (2, .int v2), (3, .int v3)] [] := by
  unfold f_Gr_slotInBegun_35 at h
  refine gd_aload_n X d_Gr_slotInBegun_35 0 rfl ?_
  refine gd_get X (ci := 1) (C := R_Gr) (T := F_Gr) (N := 12) (v := .ref (a_self 5)) 0 rfl rfl (in_Gr _) 9 (by decide) (List.mem_cons_of_mem _ fl_Gr_24) rfl rfl d_Gr_slotInBegun_36 ?_
  refine gd_iload_n X d_Gr_slotInBegun_39 1 rfl ?_
  refine gd_iload_n X d_Gr_slotInBegun_40 2 rfl ?_
  refine gd_iadd X d_Gr_slotInBegun_41 ?_
  obtain ⟨hi_1, h⟩ := ck_e h
  refine gd_iald X 5 0 rfl rfl hi_1 d_Gr_slotInBegun_42 ?_
  cases h
  exact gd_iret X hr hlk d_Gr_slotInBegun_43
def f_Gr_slotInBegun_50 (N : Nat) (s_self : Nat → Nat → Int32) (v1 : Int32) : Option ((Int32) × (Nat → Nat → Int32)) :=
  ck (s_self 0 2) 30 <|
  nm (s_self 6 (Int32.toNatClampNeg (s_self 0 2))) fun v3_2 =>
  if v3_2 < 4 then
    ck ((-1) - v1) 20 <|
    ck (((s_self 0 2) * 4) + v3_2) 120 <| nm (st2 s_self 7 (Int32.toNatClampNeg (((s_self 0 2) * 4) + v3_2)) (s_self 1 (Int32.toNatClampNeg ((-1) - v1)))) fun s_self_6 =>
    ck (s_self_6 0 2) 30 <| nm (st2 s_self_6 6 (Int32.toNatClampNeg (s_self_6 0 2)) (v3_2 + 1)) fun s_self_8 =>
    some ((v3_2), s_self_8)
  else
    some (((-1)), s_self)
set_option maxHeartbeats 4000000 in
set_option maxRecDepth 100000 in
theorem t_Gr_slotInBegun_50 {p : Program} {l : Launch} {e : Env} {s : State} {m : MethodId} {args : Array Value} {below : List Frame} {meth : Method} {c : Code} {A : Nat → Prop} {D : va_G} {K : Nat → ClassId} (a_self : Nat → Nat) (X : gx p s m args c b_Gr_slotInBegun 4 R_Gr w_Gr_slotInBegun D classes (tyK K) A) (hr : meth.sig.returnType = some .int) (hlk : meth.locks = false) (N : Nat) (r : Int32) (f_self : Nat → Nat → Int32) (s_self : Nat → Nat → Int32) (v1 : Int32) (h : f_Gr_slotInBegun_50 N s_self v1 = some (r, f_self)) : Gd p l e rm_Gr_slotInBegun s m args below meth c 0 0 (MQ below (sq D classes (tyK K) (some (.int r)) (wd_Gr K a_self f_self) A) args s 0 0 A) D classes A 4 50 (wd_Gr K a_self s_self) [(0, .ref (a_self 0)), (1, .int v1)] [] := by
  unfold f_Gr_slotInBegun_50 at h
  refine gd_aload_n X d_Gr_slotInBegun_50 0 rfl ?_
  refine gd_get X (ci := 1) (C := R_Gr) (T := F_Gr) (N := 12) (v := .ref (a_self 6)) 0 rfl rfl (in_Gr _) 10 (by decide) (List.mem_cons_of_mem _ fl_Gr_27) rfl rfl d_Gr_slotInBegun_51 ?_
  refine gd_aload_n X d_Gr_slotInBegun_54 0 rfl ?_
  refine gd_get X (ci := 1) (C := R_Gr) (T := F_Gr) (N := 12) (v := .int (s_self 0 2)) 0 rfl rfl (in_Gr _) 2 (by decide) (List.mem_cons_of_mem _ fl_Gr_37) rfl rfl d_Gr_slotInBegun_55 ?_
  obtain ⟨hi_1, h⟩ := ck_e h
  refine gd_iald X 6 0 rfl rfl hi_1 d_Gr_slotInBegun_58 ?_
  obtain ⟨v3_2, ev3_2, h⟩ := nm_e' h
  refine gd_topi ev3_2 ?_
  refine gd_istore_n X (lv' := [(3, .int v3_2), (0, .ref (a_self 0)), (1, .int v1)]) d_Gr_slotInBegun_59 rfl (by decide) rfl ?_
  refine gd_iload_n X d_Gr_slotInBegun_60 0 rfl ?_
  refine gd_iconst X (v := 4) d_Gr_slotInBegun_61 (by decide) ?_
  refine gd_icmp_lt X (tgt := 67) d_Gr_slotInBegun_62 (by decide) (fun c_3 => ?_) (fun c_3 => ?_)
  · replace h := it_p c_3 h
    refine gd_aload_n X d_Gr_slotInBegun_67 1 rfl ?_
    refine gd_get X (ci := 1) (C := R_Gr) (T := F_Gr) (N := 12) (v := .ref (a_self 7)) 0 rfl rfl (in_Gr _) 11 (by decide) (List.mem_cons_of_mem _ fl_Gr_30) rfl rfl d_Gr_slotInBegun_68 ?_
    refine gd_aload_n X d_Gr_slotInBegun_71 1 rfl ?_
    refine gd_get X (ci := 1) (C := R_Gr) (T := F_Gr) (N := 12) (v := .int (s_self 0 2)) 0 rfl rfl (in_Gr _) 2 (by decide) (List.mem_cons_of_mem _ fl_Gr_37) rfl rfl d_Gr_slotInBegun_72 ?_
    refine gd_iconst X (v := 4) d_Gr_slotInBegun_75 (by decide) ?_
    refine gd_imul X d_Gr_slotInBegun_76 ?_
    refine gd_iload_n X d_Gr_slotInBegun_77 0 rfl ?_
    refine gd_iadd X d_Gr_slotInBegun_78 ?_
    refine gd_aload_n X d_Gr_slotInBegun_79 1 rfl ?_
    refine gd_get X (ci := 1) (C := R_Gr) (T := F_Gr) (N := 12) (v := .ref (a_self 1)) 0 rfl rfl (in_Gr _) 5 (by decide) (List.mem_cons_of_mem _ fl_Gr_9) rfl rfl d_Gr_slotInBegun_80 ?_
    refine gd_iconst X (v := (-1)) d_Gr_slotInBegun_83 (by decide) ?_
    refine gd_iload_n X d_Gr_slotInBegun_84 2 rfl ?_
    refine gd_isub X d_Gr_slotInBegun_85 ?_
    obtain ⟨hi_4, h⟩ := ck_e h
    refine gd_iald X 1 0 rfl rfl hi_4 d_Gr_slotInBegun_86 ?_
    obtain ⟨hi_5, h⟩ := ck_e h
    obtain ⟨s_self_6, es_self_6, h⟩ := nm_e' h
    refine gd_iast X (w' := (wd_Gr K a_self s_self_6)) 7 0 rfl rfl hi_5 d_Gr_slotInBegun_87 (by rw [es_self_6]; rfl) ?_
    refine gd_aload_n X d_Gr_slotInBegun_88 1 rfl ?_
    refine gd_get X (ci := 1) (C := R_Gr) (T := F_Gr) (N := 12) (v := .ref (a_self 6)) 0 rfl rfl (in_Gr _) 10 (by decide) (List.mem_cons_of_mem _ fl_Gr_27) rfl rfl d_Gr_slotInBegun_89 ?_
    refine gd_aload_n X d_Gr_slotInBegun_92 1 rfl ?_
    refine gd_get X (ci := 1) (C := R_Gr) (T := F_Gr) (N := 12) (v := .int (s_self_6 0 2)) 0 rfl rfl (in_Gr _) 2 (by decide) (List.mem_cons_of_mem _ fl_Gr_37) rfl rfl d_Gr_slotInBegun_93 ?_
    refine gd_iload_n X d_Gr_slotInBegun_96 0 rfl ?_
    refine gd_iconst X (v := 1) d_Gr_slotInBegun_97 (by decide) ?_
    refine gd_iadd X d_Gr_slotInBegun_98 ?_
    obtain ⟨hi_7, h⟩ := ck_e h
    obtain ⟨s_self_8, es_self_8, h⟩ := nm_e' h
    refine gd_iast X (w' := (wd_Gr K a_self s_self_8)) 6 0 rfl rfl hi_7 d_Gr_slotInBegun_99 (by rw [es_self_8]; rfl) ?_
    refine gd_iload_n X d_Gr_slotInBegun_100 0 rfl ?_
    cases h
    exact gd_iret X hr hlk d_Gr_slotInBegun_101
  · replace h := it_n c_3 h
    refine gd_iconst X (v := (-1)) d_Gr_slotInBegun_65 (by decide) ?_
    cases h
    exact gd_iret X hr hlk d_Gr_slotInBegun_66
def l_Gr_slotInBegun_10 (N : Nat) (s_self : Nat → Nat → Int32) (v1 v2 : Int32) (kx35 : Int32 → Option ((Int32) × (Nat → Nat → Int32))) (kx50 : Option ((Int32) × (Nat → Nat → Int32))) : Nat → Int32 → Option ((Int32) × (Nat → Nat → Int32))
  | 0, _ => none
  | n + 1, v3 => f_Gr_slotInBegun_10 N (l_Gr_slotInBegun_10 N s_self v1 v2 kx35 kx50 n) kx35 kx50 s_self v1 v2 v3
set_option maxHeartbeats 4000000 in
set_option maxRecDepth 100000 in
theorem tl_Gr_slotInBegun_10 {p : Program} {l : Launch} {e : Env} {s : State} {m : MethodId} {args : Array Value} {below : List Frame} {meth : Method} {c : Code} {A : Nat → Prop} {D : va_G} {K : Nat → ClassId} (a_self : Nat → Nat) (X : gx p s m args c b_Gr_slotInBegun 4 R_Gr w_Gr_slotInBegun D classes (tyK K) A) (hr : meth.sig.returnType = some .int) (hlk : meth.locks = false) (N : Nat) (r : Int32) (f_self : Nat → Nat → Int32) (s_self : Nat → Nat → Int32) (v1 v2 : Int32) (kx35 : Int32 → Option ((Int32) × (Nat → Nat → Int32))) (hkx35 : ∀ (v3 : Int32), kx35 v3 = some (r, f_self) → Gd p l e rm_Gr_slotInBegun s m args below meth c 0 0 (MQ below (sq D classes (tyK K) (some (.int r)) (wd_Gr K a_self f_self) A) args s 0 0 A) D classes A 4 35 (wd_Gr K a_self s_self) [(0, .ref (a_self 0)), (2, .int v2), (3, .int v3)] []) (kx50 : Option ((Int32) × (Nat → Nat → Int32))) (hkx50 : kx50 = some (r, f_self) → Gd p l e rm_Gr_slotInBegun s m args below meth c 0 0 (MQ below (sq D classes (tyK K) (some (.int r)) (wd_Gr K a_self f_self) A) args s 0 0 A) D classes A 4 50 (wd_Gr K a_self s_self) [(0, .ref (a_self 0)), (1, .int v1)] []) : ∀ (n : Nat) (v3 : Int32), l_Gr_slotInBegun_10 N s_self v1 v2 kx35 kx50 n v3 = some (r, f_self) → Gd p l e rm_Gr_slotInBegun s m args below meth c 0 0 (MQ below (sq D classes (tyK K) (some (.int r)) (wd_Gr K a_self f_self) A) args s 0 0 A) D classes A 4 10 (wd_Gr K a_self s_self) [(0, .ref (a_self 0)), (1, .int v1), (2, .int v2), (3, .int v3)] [] := by
  intro n
  induction n with
  | zero => intro v3 h; have h : (none : Option ((Int32) × (Nat → Nat → Int32))) = some _ := h; cases h
  | succ n ih =>
    intro v3 h
    exact t_Gr_slotInBegun_10 a_self X hr hlk N r f_self s_self v1 v2 v3 (l_Gr_slotInBegun_10 N s_self v1 v2 kx35 kx50 n) ih kx35 hkx35 kx50 hkx50 h
def f_Gr_slotInBegun_0 (N : Nat) (s_self : Nat → Nat → Int32) (v1 : Int32) : Option ((Int32) × (Nat → Nat → Int32)) :=
  nm ((s_self 0 2) * 8) fun v2_1 =>
  l_Gr_slotInBegun_10 N s_self v1 v2_1 (fun v3 => f_Gr_slotInBegun_35 N s_self v2_1 v3) (f_Gr_slotInBegun_50 N s_self v1) N 0
set_option maxHeartbeats 4000000 in
set_option maxRecDepth 100000 in
theorem t_Gr_slotInBegun_0 {p : Program} {l : Launch} {e : Env} {s : State} {m : MethodId} {args : Array Value} {below : List Frame} {meth : Method} {c : Code} {A : Nat → Prop} {D : va_G} {K : Nat → ClassId} (a_self : Nat → Nat) (X : gx p s m args c b_Gr_slotInBegun 4 R_Gr w_Gr_slotInBegun D classes (tyK K) A) (hr : meth.sig.returnType = some .int) (hlk : meth.locks = false) (N : Nat) (r : Int32) (f_self : Nat → Nat → Int32) (s_self : Nat → Nat → Int32) (v1 : Int32) (h : f_Gr_slotInBegun_0 N s_self v1 = some (r, f_self)) : Gd p l e rm_Gr_slotInBegun s m args below meth c 0 0 (MQ below (sq D classes (tyK K) (some (.int r)) (wd_Gr K a_self f_self) A) args s 0 0 A) D classes A 4 0 (wd_Gr K a_self s_self) [(0, .ref (a_self 0)), (1, .int v1)] [] := by
  unfold f_Gr_slotInBegun_0 at h
  refine gd_aload_n X d_Gr_slotInBegun_0 0 rfl ?_
  refine gd_get X (ci := 1) (C := R_Gr) (T := F_Gr) (N := 12) (v := .int (s_self 0 2)) 0 rfl rfl (in_Gr _) 2 (by decide) (List.mem_cons_of_mem _ fl_Gr_37) rfl rfl d_Gr_slotInBegun_1 ?_
  refine gd_bipush X (v := 8) d_Gr_slotInBegun_4 (by decide) ?_
  refine gd_imul X d_Gr_slotInBegun_6 ?_
  obtain ⟨v2_1, ev2_1, h⟩ := nm_e' h
  refine gd_topi ev2_1 ?_
  refine gd_istore_n X (lv' := [(2, .int v2_1), (0, .ref (a_self 0)), (1, .int v1)]) d_Gr_slotInBegun_7 rfl (by decide) rfl ?_
  refine gd_iconst X (v := 0) d_Gr_slotInBegun_8 (by decide) ?_
  refine gd_istore_n X (lv' := [(3, .int 0), (2, .int v2_1), (0, .ref (a_self 0)), (1, .int v1)]) d_Gr_slotInBegun_9 rfl (by decide) rfl ?_
  refine gd_loc (lv' := [(0, .ref (a_self 0)), (1, .int v1), (2, .int v2_1), (3, .int 0)]) [2, 3, 1, 0] rfl ?_
  exact tl_Gr_slotInBegun_10 a_self X hr hlk N r f_self s_self v1 v2_1 (fun v3 => f_Gr_slotInBegun_35 N s_self v2_1 v3) (fun v3 h => t_Gr_slotInBegun_35 a_self X hr hlk N r f_self s_self v2_1 v3 h) (f_Gr_slotInBegun_50 N s_self v1) (fun h => t_Gr_slotInBegun_50 a_self X hr hlk N r f_self s_self v1 h) N 0 h
def m_Gr_slotInBegun (N : Nat) (s_self : Nat → Nat → Int32) (v1 : Int32) : Option ((Int32) × (Nat → Nat → Int32)) := f_Gr_slotInBegun_0 N s_self v1
set_option maxHeartbeats 4000000 in
set_option maxRecDepth 100000 in
theorem c_Gr_slotInBegun (l : Launch) (D : va_G) (K : Nat → ClassId) (a_self : Nat → Nat) (N : Nat) (s_self : Nat → Nat → Int32) (v1 : Int32) (r : Int32) (f_self : Nat → Nat → Int32) (h : m_Gr_slotInBegun N s_self v1 = some (r, f_self)) : SMet l y_Gr_slotInBegun w_Gr_slotInBegun rm_Gr_slotInBegun D classes (tyK K) [.ref (a_self 0), .int v1] (some (.int r)) (wd_Gr K a_self s_self) (wd_Gr K a_self f_self) := by
  refine sm_of R_Gr (by decide) rfl rfl (Nat.le_of_ble_eq_true rfl) ?_
  intro p e s m below meth c A X hr hlk
  refine gd_loc (lv' := [(0, .ref (a_self 0)), (1, .int v1)]) [0, 1] rfl ?_
  exact t_Gr_slotInBegun_0 a_self X hr hlk N r f_self s_self v1 h
abbrev b_Gr_putSymbol : ByteArray := prog_3_method_17_code
def y_Gr_putSymbol : MethodName := ⟨R_Gr, "putSymbol", "(I)I"⟩
def w_Gr_putSymbol : List Cond := .code y_Gr_putSymbol b_Gr_putSymbol 4 (some .int) :: TB
theorem k_Gr_putSymbol : Cond.code y_Gr_putSymbol b_Gr_putSymbol 4 (some .int) ∈ TB := tb_of 324 (by decide +kernel) (by decide +kernel)
theorem d_Gr_putSymbol_0 : decode b_Gr_putSymbol 0 = .ok (.aload_n 0, 1) := by decide +kernel
theorem d_Gr_putSymbol_1 : decode b_Gr_putSymbol 1 = .ok (.getfield 57, 3) := by decide +kernel
theorem d_Gr_putSymbol_4 : decode b_Gr_putSymbol 4 = .ok (.ifCond .eq 20, 3) := by decide +kernel
theorem d_Gr_putSymbol_7 : decode b_Gr_putSymbol 7 = .ok (.aload_n 0, 1) := by decide +kernel
theorem d_Gr_putSymbol_8 : decode b_Gr_putSymbol 8 = .ok (.getfield 37, 3) := by decide +kernel
theorem d_Gr_putSymbol_11 : decode b_Gr_putSymbol 11 = .ok (.bipush 30, 2) := by decide +kernel
theorem d_Gr_putSymbol_13 : decode b_Gr_putSymbol 13 = .ok (.if_icmp .ge 11, 3) := by decide +kernel
theorem d_Gr_putSymbol_16 : decode b_Gr_putSymbol 16 = .ok (.aload_n 0, 1) := by decide +kernel
theorem d_Gr_putSymbol_17 : decode b_Gr_putSymbol 17 = .ok (.iload_n 1, 1) := by decide +kernel
theorem d_Gr_putSymbol_18 : decode b_Gr_putSymbol 18 = .ok (.invokevirtual 67, 3) := by decide +kernel
theorem d_Gr_putSymbol_21 : decode b_Gr_putSymbol 21 = .ok (.ifCond .ne 5, 3) := by decide +kernel
theorem d_Gr_putSymbol_24 : decode b_Gr_putSymbol 24 = .ok (.iconst (-1), 1) := by decide +kernel
theorem d_Gr_putSymbol_25 : decode b_Gr_putSymbol 25 = .ok (.ireturn, 1) := by decide +kernel
theorem d_Gr_putSymbol_26 : decode b_Gr_putSymbol 26 = .ok (.aload_n 0, 1) := by decide +kernel
theorem d_Gr_putSymbol_27 : decode b_Gr_putSymbol 27 = .ok (.getfield 18, 3) := by decide +kernel
theorem d_Gr_putSymbol_30 : decode b_Gr_putSymbol 30 = .ok (.aload_n 0, 1) := by decide +kernel
theorem d_Gr_putSymbol_31 : decode b_Gr_putSymbol 31 = .ok (.getfield 37, 3) := by decide +kernel
theorem d_Gr_putSymbol_34 : decode b_Gr_putSymbol 34 = .ok (.iaload, 1) := by decide +kernel
theorem d_Gr_putSymbol_35 : decode b_Gr_putSymbol 35 = .ok (.istore_n 2, 1) := by decide +kernel
theorem d_Gr_putSymbol_36 : decode b_Gr_putSymbol 36 = .ok (.iload_n 2, 1) := by decide +kernel
theorem d_Gr_putSymbol_37 : decode b_Gr_putSymbol 37 = .ok (.bipush 8, 2) := by decide +kernel
theorem d_Gr_putSymbol_39 : decode b_Gr_putSymbol 39 = .ok (.if_icmp .ge 15, 3) := by decide +kernel
theorem d_Gr_putSymbol_42 : decode b_Gr_putSymbol 42 = .ok (.iload_n 1, 1) := by decide +kernel
theorem d_Gr_putSymbol_43 : decode b_Gr_putSymbol 43 = .ok (.ifCond .ge 13, 3) := by decide +kernel
theorem d_Gr_putSymbol_46 : decode b_Gr_putSymbol 46 = .ok (.aload_n 0, 1) := by decide +kernel
theorem d_Gr_putSymbol_47 : decode b_Gr_putSymbol 47 = .ok (.getfield 64, 3) := by decide +kernel
theorem d_Gr_putSymbol_50 : decode b_Gr_putSymbol 50 = .ok (.iconst 4, 1) := by decide +kernel
theorem d_Gr_putSymbol_51 : decode b_Gr_putSymbol 51 = .ok (.if_icmp .lt 5, 3) := by decide +kernel
theorem d_Gr_putSymbol_54 : decode b_Gr_putSymbol 54 = .ok (.iconst (-1), 1) := by decide +kernel
theorem d_Gr_putSymbol_55 : decode b_Gr_putSymbol 55 = .ok (.ireturn, 1) := by decide +kernel
theorem d_Gr_putSymbol_56 : decode b_Gr_putSymbol 56 = .ok (.aload_n 0, 1) := by decide +kernel
theorem d_Gr_putSymbol_57 : decode b_Gr_putSymbol 57 = .ok (.getfield 37, 3) := by decide +kernel
theorem d_Gr_putSymbol_60 : decode b_Gr_putSymbol 60 = .ok (.bipush 8, 2) := by decide +kernel
theorem d_Gr_putSymbol_62 : decode b_Gr_putSymbol 62 = .ok (.imul, 1) := by decide +kernel
theorem d_Gr_putSymbol_63 : decode b_Gr_putSymbol 63 = .ok (.iload_n 2, 1) := by decide +kernel
theorem d_Gr_putSymbol_64 : decode b_Gr_putSymbol 64 = .ok (.iadd, 1) := by decide +kernel
theorem d_Gr_putSymbol_65 : decode b_Gr_putSymbol 65 = .ok (.istore_n 3, 1) := by decide +kernel
theorem d_Gr_putSymbol_66 : decode b_Gr_putSymbol 66 = .ok (.aload_n 0, 1) := by decide +kernel
theorem d_Gr_putSymbol_67 : decode b_Gr_putSymbol 67 = .ok (.getfield 24, 3) := by decide +kernel
theorem d_Gr_putSymbol_70 : decode b_Gr_putSymbol 70 = .ok (.iload_n 3, 1) := by decide +kernel
theorem d_Gr_putSymbol_71 : decode b_Gr_putSymbol 71 = .ok (.iload_n 1, 1) := by decide +kernel
theorem d_Gr_putSymbol_72 : decode b_Gr_putSymbol 72 = .ok (.ifCond .ge 11, 3) := by decide +kernel
theorem d_Gr_putSymbol_75 : decode b_Gr_putSymbol 75 = .ok (.aload_n 0, 1) := by decide +kernel
theorem d_Gr_putSymbol_76 : decode b_Gr_putSymbol 76 = .ok (.iload_n 1, 1) := by decide +kernel
theorem d_Gr_putSymbol_77 : decode b_Gr_putSymbol 77 = .ok (.invokevirtual 70, 3) := by decide +kernel
theorem d_Gr_putSymbol_80 : decode b_Gr_putSymbol 80 = .ok (.goto 4, 3) := by decide +kernel
theorem d_Gr_putSymbol_83 : decode b_Gr_putSymbol 83 = .ok (.iconst (-1), 1) := by decide +kernel
theorem d_Gr_putSymbol_84 : decode b_Gr_putSymbol 84 = .ok (.iastore, 1) := by decide +kernel
theorem d_Gr_putSymbol_85 : decode b_Gr_putSymbol 85 = .ok (.aload_n 0, 1) := by decide +kernel
theorem d_Gr_putSymbol_86 : decode b_Gr_putSymbol 86 = .ok (.getfield 21, 3) := by decide +kernel
theorem d_Gr_putSymbol_89 : decode b_Gr_putSymbol 89 = .ok (.iload_n 3, 1) := by decide +kernel
theorem d_Gr_putSymbol_90 : decode b_Gr_putSymbol 90 = .ok (.iload_n 1, 1) := by decide +kernel
theorem d_Gr_putSymbol_91 : decode b_Gr_putSymbol 91 = .ok (.iastore, 1) := by decide +kernel
theorem d_Gr_putSymbol_92 : decode b_Gr_putSymbol 92 = .ok (.aload_n 0, 1) := by decide +kernel
theorem d_Gr_putSymbol_93 : decode b_Gr_putSymbol 93 = .ok (.getfield 18, 3) := by decide +kernel
theorem d_Gr_putSymbol_96 : decode b_Gr_putSymbol 96 = .ok (.aload_n 0, 1) := by decide +kernel
theorem d_Gr_putSymbol_97 : decode b_Gr_putSymbol 97 = .ok (.getfield 37, 3) := by decide +kernel
theorem d_Gr_putSymbol_100 : decode b_Gr_putSymbol 100 = .ok (.iload_n 2, 1) := by decide +kernel
theorem d_Gr_putSymbol_101 : decode b_Gr_putSymbol 101 = .ok (.iconst 1, 1) := by decide +kernel
theorem d_Gr_putSymbol_102 : decode b_Gr_putSymbol 102 = .ok (.iadd, 1) := by decide +kernel
theorem d_Gr_putSymbol_103 : decode b_Gr_putSymbol 103 = .ok (.iastore, 1) := by decide +kernel
theorem d_Gr_putSymbol_104 : decode b_Gr_putSymbol 104 = .ok (.iload_n 1, 1) := by decide +kernel
theorem d_Gr_putSymbol_105 : decode b_Gr_putSymbol 105 = .ok (.ifCond .ge 13, 3) := by decide +kernel
theorem d_Gr_putSymbol_108 : decode b_Gr_putSymbol 108 = .ok (.aload_n 0, 1) := by decide +kernel
theorem d_Gr_putSymbol_109 : decode b_Gr_putSymbol 109 = .ok (.dup, 1) := by decide +kernel
theorem d_Gr_putSymbol_110 : decode b_Gr_putSymbol 110 = .ok (.getfield 64, 3) := by decide +kernel
theorem d_Gr_putSymbol_113 : decode b_Gr_putSymbol 113 = .ok (.iconst 1, 1) := by decide +kernel
theorem d_Gr_putSymbol_114 : decode b_Gr_putSymbol 114 = .ok (.iadd, 1) := by decide +kernel
theorem d_Gr_putSymbol_115 : decode b_Gr_putSymbol 115 = .ok (.putfield 64, 3) := by decide +kernel
theorem d_Gr_putSymbol_118 : decode b_Gr_putSymbol 118 = .ok (.iload_n 2, 1) := by decide +kernel
theorem d_Gr_putSymbol_119 : decode b_Gr_putSymbol 119 = .ok (.iconst 1, 1) := by decide +kernel
theorem d_Gr_putSymbol_120 : decode b_Gr_putSymbol 120 = .ok (.iadd, 1) := by decide +kernel
theorem d_Gr_putSymbol_121 : decode b_Gr_putSymbol 121 = .ok (.ireturn, 1) := by decide +kernel
theorem ml_Gr_70 : Cond.methodLink R_Gr 70 ⟨"RuleTrees$Grammar", "slotInBegun", "(I)I"⟩ ∈ TB := tb_of 329 (by decide +kernel) (by decide +kernel)
theorem u_Gr_slotInBegun : (Cond.instanceMethod y_Gr_slotInBegun ∈ TB ∧ Cond.selects R_Gr y_Gr_slotInBegun y_Gr_slotInBegun ∈ TB) ∧ Cond.initialized R_Gr ∈ TB ∧ Cond.code y_Gr_slotInBegun b_Gr_slotInBegun 4 (some .int) ∈ TB := ⟨⟨(tb_of 331 (by decide +kernel) (by decide +kernel)), (tb_of 0 (by decide +kernel) (by decide +kernel))⟩, (tb_of 63 (by decide +kernel) (by decide +kernel)), k_Gr_slotInBegun⟩
theorem ml_Gr_67 : Cond.methodLink R_Gr 67 ⟨"RuleTrees$Grammar", "hasSymbol", "(I)Z"⟩ ∈ TB := tb_of 325 (by decide +kernel) (by decide +kernel)
theorem u_Gr_hasSymbol : (Cond.instanceMethod y_Gr_hasSymbol ∈ TB ∧ Cond.selects R_Gr y_Gr_hasSymbol y_Gr_hasSymbol ∈ TB) ∧ Cond.initialized R_Gr ∈ TB ∧ Cond.code y_Gr_hasSymbol b_Gr_hasSymbol 2 (some .boolean) ∈ TB := ⟨⟨(tb_of 326 (by decide +kernel) (by decide +kernel)), (tb_of 327 (by decide +kernel) (by decide +kernel))⟩, (tb_of 63 (by decide +kernel) (by decide +kernel)), k_Gr_hasSymbol⟩
abbrev rm_Gr_putSymbol : Room := { frames := 1, cells := 0, slots := 0, locals := 23 }
def f_Gr_putSymbol_84 (N : Nat) (s_self : Nat → Nat → Int32) (v1 v2 v3 : Int32) (k1 : Int32) (k2 : Int32) : Option ((Int32) × (Nat → Nat → Int32)) :=
  ck k1 240 <| nm (st2 s_self 5 (Int32.toNatClampNeg k1) k2) fun s_self_2 =>
  ck v3 240 <| nm (st2 s_self_2 4 (Int32.toNatClampNeg v3) v1) fun s_self_4 =>
  ck (s_self_4 0 2) 30 <| nm (st2 s_self_4 3 (Int32.toNatClampNeg (s_self_4 0 2)) (v2 + 1)) fun s_self_6 =>
  if 0 ≤ v1 then
    some ((v2 + 1), s_self_6)
  else
    nm (st2 s_self_6 0 4 ((s_self_6 0 4) + 1)) fun s_self_8 =>
    some ((v2 + 1), s_self_8)
set_option maxHeartbeats 4000000 in
set_option maxRecDepth 100000 in
theorem t_Gr_putSymbol_84 {p : Program} {l : Launch} {e : Env} {s : State} {m : MethodId} {args : Array Value} {below : List Frame} {meth : Method} {c : Code} {A : Nat → Prop} {D : va_G} {K : Nat → ClassId} (a_self : Nat → Nat) (X : gx p s m args c b_Gr_putSymbol 4 R_Gr w_Gr_putSymbol D classes (tyK K) A) (hr : meth.sig.returnType = some .int) (hlk : meth.locks = false) (N : Nat) (r : Int32) (f_self : Nat → Nat → Int32) (s_self : Nat → Nat → Int32) (v1 v2 v3 : Int32) (k1 : Int32) (k2 : Int32) (h : f_Gr_putSymbol_84 N s_self v1 v2 v3 k1 k2 = some (r, f_self)) : Gd p l e rm_Gr_putSymbol s m args below meth c 0 0 (MQ below (sq D classes (tyK K) (some (.int r)) (wd_Gr K a_self f_self) A) args s 0 0 A) D classes A 4 84 (wd_Gr K a_self s_self) [(0, .ref (a_self 0)), (1, .int v1), (2, .int v2), (3, .int v3)] [.int k2, .int k1, .ref (a_self 5)] := by
  unfold f_Gr_putSymbol_84 at h
  obtain ⟨hi_1, h⟩ := ck_e h
  obtain ⟨s_self_2, es_self_2, h⟩ := nm_e' h
  refine gd_iast X (w' := (wd_Gr K a_self s_self_2)) 5 0 rfl rfl hi_1 d_Gr_putSymbol_84 (by rw [es_self_2]; rfl) ?_
  refine gd_aload_n X d_Gr_putSymbol_85 0 rfl ?_
  refine gd_get X (ci := 1) (C := R_Gr) (T := F_Gr) (N := 12) (v := .ref (a_self 4)) 0 rfl rfl (in_Gr _) 8 (by decide) (List.mem_cons_of_mem _ fl_Gr_21) rfl rfl d_Gr_putSymbol_86 ?_
  refine gd_iload_n X d_Gr_putSymbol_89 3 rfl ?_
  refine gd_iload_n X d_Gr_putSymbol_90 1 rfl ?_
  obtain ⟨hi_3, h⟩ := ck_e h
  obtain ⟨s_self_4, es_self_4, h⟩ := nm_e' h
  refine gd_iast X (w' := (wd_Gr K a_self s_self_4)) 4 0 rfl rfl hi_3 d_Gr_putSymbol_91 (by rw [es_self_4]; rfl) ?_
  refine gd_aload_n X d_Gr_putSymbol_92 0 rfl ?_
  refine gd_get X (ci := 1) (C := R_Gr) (T := F_Gr) (N := 12) (v := .ref (a_self 3)) 0 rfl rfl (in_Gr _) 7 (by decide) (List.mem_cons_of_mem _ fl_Gr_18) rfl rfl d_Gr_putSymbol_93 ?_
  refine gd_aload_n X d_Gr_putSymbol_96 0 rfl ?_
  refine gd_get X (ci := 1) (C := R_Gr) (T := F_Gr) (N := 12) (v := .int (s_self_4 0 2)) 0 rfl rfl (in_Gr _) 2 (by decide) (List.mem_cons_of_mem _ fl_Gr_37) rfl rfl d_Gr_putSymbol_97 ?_
  refine gd_iload_n X d_Gr_putSymbol_100 2 rfl ?_
  refine gd_iconst X (v := 1) d_Gr_putSymbol_101 (by decide) ?_
  refine gd_iadd X d_Gr_putSymbol_102 ?_
  obtain ⟨hi_5, h⟩ := ck_e h
  obtain ⟨s_self_6, es_self_6, h⟩ := nm_e' h
  refine gd_iast X (w' := (wd_Gr K a_self s_self_6)) 3 0 rfl rfl hi_5 d_Gr_putSymbol_103 (by rw [es_self_6]; rfl) ?_
  refine gd_iload_n X d_Gr_putSymbol_104 1 rfl ?_
  refine gd_if_ge X (tgt := 118) d_Gr_putSymbol_105 (by decide) (fun c_7 => ?_) (fun c_7 => ?_)
  · replace h := it_p c_7 h
    refine gd_iload_n X d_Gr_putSymbol_118 2 rfl ?_
    refine gd_iconst X (v := 1) d_Gr_putSymbol_119 (by decide) ?_
    refine gd_iadd X d_Gr_putSymbol_120 ?_
    cases h
    exact gd_iret X hr hlk d_Gr_putSymbol_121
  · replace h := it_n c_7 h
    refine gd_aload_n X d_Gr_putSymbol_108 0 rfl ?_
    refine gd_dup X d_Gr_putSymbol_109 rfl ?_
    refine gd_get X (ci := 1) (C := R_Gr) (T := F_Gr) (N := 12) (v := .int (s_self_6 0 4)) 0 rfl rfl (in_Gr _) 4 (by decide) (List.mem_cons_of_mem _ fl_Gr_64) rfl rfl d_Gr_putSymbol_110 ?_
    refine gd_iconst X (v := 1) d_Gr_putSymbol_113 (by decide) ?_
    refine gd_iadd X d_Gr_putSymbol_114 ?_
    obtain ⟨s_self_8, es_self_8, h⟩ := nm_e' h
    refine gd_put X (ci := 1) (C := R_Gr) (T := F_Gr) (N := 12) (ty := .int) (w' := (wd_Gr K a_self s_self_8)) 0 rfl rfl (in_Gr _) t_Gr t_Gr_ok n_Gr 4 (by decide) (List.mem_cons_of_mem _ fl_Gr_64) rfl rfl (by decide +kernel) rfl rfl (Nat.le_of_ble_eq_true rfl) d_Gr_putSymbol_115 (by rw [es_self_8]; rfl) ?_
    refine gd_iload_n X d_Gr_putSymbol_118 2 rfl ?_
    refine gd_iconst X (v := 1) d_Gr_putSymbol_119 (by decide) ?_
    refine gd_iadd X d_Gr_putSymbol_120 ?_
    cases h
    exact gd_iret X hr hlk d_Gr_putSymbol_121
def f_Gr_putSymbol_56 (N : Nat) (s_self : Nat → Nat → Int32) (v1 v2 : Int32) : Option ((Int32) × (Nat → Nat → Int32)) :=
  nm (((s_self 0 2) * 8) + v2) fun v3_1 =>
  if 0 ≤ v1 then
    f_Gr_putSymbol_84 N s_self v1 v2 v3_1 v3_1 (-1)
  else
    bd2 (m_Gr_slotInBegun N s_self v1) fun r_3 s_self_4 =>
    f_Gr_putSymbol_84 N s_self_4 v1 v2 v3_1 v3_1 r_3
set_option maxHeartbeats 4000000 in
set_option maxRecDepth 100000 in
theorem t_Gr_putSymbol_56 {p : Program} {l : Launch} {e : Env} {s : State} {m : MethodId} {args : Array Value} {below : List Frame} {meth : Method} {c : Code} {A : Nat → Prop} {D : va_G} {K : Nat → ClassId} (a_self : Nat → Nat) (X : gx p s m args c b_Gr_putSymbol 4 R_Gr w_Gr_putSymbol D classes (tyK K) A) (hr : meth.sig.returnType = some .int) (hlk : meth.locks = false) (N : Nat) (r : Int32) (f_self : Nat → Nat → Int32) (s_self : Nat → Nat → Int32) (v1 v2 : Int32) (h : f_Gr_putSymbol_56 N s_self v1 v2 = some (r, f_self)) : Gd p l e rm_Gr_putSymbol s m args below meth c 0 0 (MQ below (sq D classes (tyK K) (some (.int r)) (wd_Gr K a_self f_self) A) args s 0 0 A) D classes A 4 56 (wd_Gr K a_self s_self) [(0, .ref (a_self 0)), (1, .int v1), (2, .int v2)] [] := by
  unfold f_Gr_putSymbol_56 at h
  refine gd_aload_n X d_Gr_putSymbol_56 0 rfl ?_
  refine gd_get X (ci := 1) (C := R_Gr) (T := F_Gr) (N := 12) (v := .int (s_self 0 2)) 0 rfl rfl (in_Gr _) 2 (by decide) (List.mem_cons_of_mem _ fl_Gr_37) rfl rfl d_Gr_putSymbol_57 ?_
  refine gd_bipush X (v := 8) d_Gr_putSymbol_60 (by decide) ?_
  refine gd_imul X d_Gr_putSymbol_62 ?_
  refine gd_iload_n X d_Gr_putSymbol_63 2 rfl ?_
  refine gd_iadd X d_Gr_putSymbol_64 ?_
  obtain ⟨v3_1, ev3_1, h⟩ := nm_e' h
  refine gd_topi ev3_1 ?_
  refine gd_istore_n X (lv' := [(3, .int v3_1), (0, .ref (a_self 0)), (1, .int v1), (2, .int v2)]) d_Gr_putSymbol_65 rfl (by decide) rfl ?_
  refine gd_aload_n X d_Gr_putSymbol_66 1 rfl ?_
  refine gd_get X (ci := 1) (C := R_Gr) (T := F_Gr) (N := 12) (v := .ref (a_self 5)) 0 rfl rfl (in_Gr _) 9 (by decide) (List.mem_cons_of_mem _ fl_Gr_24) rfl rfl d_Gr_putSymbol_67 ?_
  refine gd_iload_n X d_Gr_putSymbol_70 0 rfl ?_
  refine gd_iload_n X d_Gr_putSymbol_71 2 rfl ?_
  refine gd_if_ge X (tgt := 83) d_Gr_putSymbol_72 (by decide) (fun c_2 => ?_) (fun c_2 => ?_)
  · replace h := it_p c_2 h
    refine gd_iconst X (v := (-1)) d_Gr_putSymbol_83 (by decide) ?_
    refine gd_loc (lv' := [(0, .ref (a_self 0)), (1, .int v1), (2, .int v2), (3, .int v3_1)]) [1, 2, 3, 0] rfl ?_
    exact t_Gr_putSymbol_84 a_self X hr hlk N r f_self s_self v1 v2 v3_1 v3_1 (-1) h
  · replace h := it_n c_2 h
    refine gd_aload_n X d_Gr_putSymbol_75 1 rfl ?_
    refine gd_iload_n X d_Gr_putSymbol_76 2 rfl ?_
    obtain ⟨r_3, s_self_4, hc_5, h⟩ := bd2_e h
    refine gd_fI X (w1 := (wd_Gr K a_self s_self_4)) (gd_V X (As := [.int v1]) (rest := [.int v3_1, .ref (a_self 5)]) (c_Gr_slotInBegun l D K a_self N s_self v1 r_3 s_self_4 hc_5) 1 (gi_V ml_Gr_70 u_Gr_slotInBegun) rfl ⟨rfl, rfl⟩ (by decide +kernel) ⟨by decide, by decide⟩ (ci := 1) rfl rfl 0 rfl rfl rfl (Nat.le_of_ble_eq_true rfl) ⟨Nat.zero_le _, Nat.zero_le _⟩ d_Gr_putSymbol_77) rfl ?_
    refine gd_goto X (tgt := 84) d_Gr_putSymbol_80 (by decide) ?_
    refine gd_loc (lv' := [(0, .ref (a_self 0)), (1, .int v1), (2, .int v2), (3, .int v3_1)]) [1, 2, 3, 0] rfl ?_
    exact t_Gr_putSymbol_84 a_self X hr hlk N r f_self s_self_4 v1 v2 v3_1 v3_1 r_3 h
def f_Gr_putSymbol_0 (N : Nat) (s_self : Nat → Nat → Int32) (v1 : Int32) : Option ((Int32) × (Nat → Nat → Int32)) :=
  if (s_self 0 3) = 0 then
    some (((-1)), s_self)
  else
    if 30 ≤ (s_self 0 2) then
      some (((-1)), s_self)
    else
      bd1 (m_Gr_hasSymbol s_self v1) fun r_3 =>
      if r_3 = 0 then
        some (((-1)), s_self)
      else
        ck (s_self 0 2) 30 <|
        nm (s_self 3 (Int32.toNatClampNeg (s_self 0 2))) fun v2_7 =>
        if 8 ≤ v2_7 then
          some (((-1)), s_self)
        else
          if 0 ≤ v1 then
            f_Gr_putSymbol_56 N s_self v1 v2_7
          else
            if (s_self 0 4) < 4 then
              f_Gr_putSymbol_56 N s_self v1 v2_7
            else
              some (((-1)), s_self)
set_option maxHeartbeats 4000000 in
set_option maxRecDepth 100000 in
theorem t_Gr_putSymbol_0 {p : Program} {l : Launch} {e : Env} {s : State} {m : MethodId} {args : Array Value} {below : List Frame} {meth : Method} {c : Code} {A : Nat → Prop} {D : va_G} {K : Nat → ClassId} (a_self : Nat → Nat) (X : gx p s m args c b_Gr_putSymbol 4 R_Gr w_Gr_putSymbol D classes (tyK K) A) (hr : meth.sig.returnType = some .int) (hlk : meth.locks = false) (N : Nat) (r : Int32) (f_self : Nat → Nat → Int32) (s_self : Nat → Nat → Int32) (v1 : Int32) (h : f_Gr_putSymbol_0 N s_self v1 = some (r, f_self)) : Gd p l e rm_Gr_putSymbol s m args below meth c 0 0 (MQ below (sq D classes (tyK K) (some (.int r)) (wd_Gr K a_self f_self) A) args s 0 0 A) D classes A 4 0 (wd_Gr K a_self s_self) [(0, .ref (a_self 0)), (1, .int v1)] [] := by
  unfold f_Gr_putSymbol_0 at h
  refine gd_aload_n X d_Gr_putSymbol_0 0 rfl ?_
  refine gd_get X (ci := 1) (C := R_Gr) (T := F_Gr) (N := 12) (v := .int (s_self 0 3)) 0 rfl rfl (in_Gr _) 3 (by decide) (List.mem_cons_of_mem _ fl_Gr_57) rfl rfl d_Gr_putSymbol_1 ?_
  refine gd_if_eq X (tgt := 24) d_Gr_putSymbol_4 (by decide) (fun c_1 => ?_) (fun c_1 => ?_)
  · replace h := it_p c_1 h
    refine gd_iconst X (v := (-1)) d_Gr_putSymbol_24 (by decide) ?_
    cases h
    exact gd_iret X hr hlk d_Gr_putSymbol_25
  · replace h := it_n c_1 h
    refine gd_aload_n X d_Gr_putSymbol_7 0 rfl ?_
    refine gd_get X (ci := 1) (C := R_Gr) (T := F_Gr) (N := 12) (v := .int (s_self 0 2)) 0 rfl rfl (in_Gr _) 2 (by decide) (List.mem_cons_of_mem _ fl_Gr_37) rfl rfl d_Gr_putSymbol_8 ?_
    refine gd_bipush X (v := 30) d_Gr_putSymbol_11 (by decide) ?_
    refine gd_icmp_ge X (tgt := 24) d_Gr_putSymbol_13 (by decide) (fun c_2 => ?_) (fun c_2 => ?_)
    · replace h := it_p c_2 h
      refine gd_iconst X (v := (-1)) d_Gr_putSymbol_24 (by decide) ?_
      cases h
      exact gd_iret X hr hlk d_Gr_putSymbol_25
    · replace h := it_n c_2 h
      refine gd_aload_n X d_Gr_putSymbol_16 0 rfl ?_
      refine gd_iload_n X d_Gr_putSymbol_17 1 rfl ?_
      obtain ⟨r_3, hc_4, h⟩ := bd1_e h
      refine gd_fI X (gd_V X (As := [.int v1]) (rest := []) (c_Gr_hasSymbol l D K a_self s_self v1 r_3 hc_4) 1 (gi_V ml_Gr_67 u_Gr_hasSymbol) rfl ⟨rfl, rfl⟩ (by decide +kernel) ⟨by decide, by decide⟩ (ci := 1) rfl rfl 0 rfl rfl rfl (Nat.le_of_ble_eq_true rfl) ⟨Nat.zero_le _, Nat.zero_le _⟩ d_Gr_putSymbol_18) rfl ?_
      refine gd_if_ne X (tgt := 26) d_Gr_putSymbol_21 (by decide) (fun c_5 => ?_) (fun c_5 => ?_)
      · replace h := it_n c_5 h
        refine gd_aload_n X d_Gr_putSymbol_26 0 rfl ?_
        refine gd_get X (ci := 1) (C := R_Gr) (T := F_Gr) (N := 12) (v := .ref (a_self 3)) 0 rfl rfl (in_Gr _) 7 (by decide) (List.mem_cons_of_mem _ fl_Gr_18) rfl rfl d_Gr_putSymbol_27 ?_
        refine gd_aload_n X d_Gr_putSymbol_30 0 rfl ?_
        refine gd_get X (ci := 1) (C := R_Gr) (T := F_Gr) (N := 12) (v := .int (s_self 0 2)) 0 rfl rfl (in_Gr _) 2 (by decide) (List.mem_cons_of_mem _ fl_Gr_37) rfl rfl d_Gr_putSymbol_31 ?_
        obtain ⟨hi_6, h⟩ := ck_e h
        refine gd_iald X 3 0 rfl rfl hi_6 d_Gr_putSymbol_34 ?_
        obtain ⟨v2_7, ev2_7, h⟩ := nm_e' h
        refine gd_topi ev2_7 ?_
        refine gd_istore_n X (lv' := [(2, .int v2_7), (0, .ref (a_self 0)), (1, .int v1)]) d_Gr_putSymbol_35 rfl (by decide) rfl ?_
        refine gd_iload_n X d_Gr_putSymbol_36 0 rfl ?_
        refine gd_bipush X (v := 8) d_Gr_putSymbol_37 (by decide) ?_
        refine gd_icmp_ge X (tgt := 54) d_Gr_putSymbol_39 (by decide) (fun c_8 => ?_) (fun c_8 => ?_)
        · replace h := it_p c_8 h
          refine gd_iconst X (v := (-1)) d_Gr_putSymbol_54 (by decide) ?_
          cases h
          exact gd_iret X hr hlk d_Gr_putSymbol_55
        · replace h := it_n c_8 h
          refine gd_iload_n X d_Gr_putSymbol_42 2 rfl ?_
          refine gd_if_ge X (tgt := 56) d_Gr_putSymbol_43 (by decide) (fun c_9 => ?_) (fun c_9 => ?_)
          · replace h := it_p c_9 h
            refine gd_loc (lv' := [(0, .ref (a_self 0)), (1, .int v1), (2, .int v2_7)]) [1, 2, 0] rfl ?_
            exact t_Gr_putSymbol_56 a_self X hr hlk N r f_self s_self v1 v2_7 h
          · replace h := it_n c_9 h
            refine gd_aload_n X d_Gr_putSymbol_46 1 rfl ?_
            refine gd_get X (ci := 1) (C := R_Gr) (T := F_Gr) (N := 12) (v := .int (s_self 0 4)) 0 rfl rfl (in_Gr _) 4 (by decide) (List.mem_cons_of_mem _ fl_Gr_64) rfl rfl d_Gr_putSymbol_47 ?_
            refine gd_iconst X (v := 4) d_Gr_putSymbol_50 (by decide) ?_
            refine gd_icmp_lt X (tgt := 56) d_Gr_putSymbol_51 (by decide) (fun c_10 => ?_) (fun c_10 => ?_)
            · replace h := it_p c_10 h
              refine gd_loc (lv' := [(0, .ref (a_self 0)), (1, .int v1), (2, .int v2_7)]) [1, 2, 0] rfl ?_
              exact t_Gr_putSymbol_56 a_self X hr hlk N r f_self s_self v1 v2_7 h
            · replace h := it_n c_10 h
              refine gd_iconst X (v := (-1)) d_Gr_putSymbol_54 (by decide) ?_
              cases h
              exact gd_iret X hr hlk d_Gr_putSymbol_55
      · replace h := it_p c_5 h
        refine gd_iconst X (v := (-1)) d_Gr_putSymbol_24 (by decide) ?_
        cases h
        exact gd_iret X hr hlk d_Gr_putSymbol_25
def m_Gr_putSymbol (N : Nat) (s_self : Nat → Nat → Int32) (v1 : Int32) : Option ((Int32) × (Nat → Nat → Int32)) := f_Gr_putSymbol_0 N s_self v1
set_option maxHeartbeats 4000000 in
set_option maxRecDepth 100000 in
theorem c_Gr_putSymbol (l : Launch) (D : va_G) (K : Nat → ClassId) (a_self : Nat → Nat) (N : Nat) (s_self : Nat → Nat → Int32) (v1 : Int32) (r : Int32) (f_self : Nat → Nat → Int32) (h : m_Gr_putSymbol N s_self v1 = some (r, f_self)) : SMet l y_Gr_putSymbol w_Gr_putSymbol rm_Gr_putSymbol D classes (tyK K) [.ref (a_self 0), .int v1] (some (.int r)) (wd_Gr K a_self s_self) (wd_Gr K a_self f_self) := by
  refine sm_of R_Gr (by decide) rfl rfl (Nat.le_of_ble_eq_true rfl) ?_
  intro p e s m below meth c A X hr hlk
  refine gd_loc (lv' := [(0, .ref (a_self 0)), (1, .int v1)]) [0, 1] rfl ?_
  exact t_Gr_putSymbol_0 a_self X hr hlk N r f_self s_self v1 h
abbrev b_Gr_closeRule : ByteArray := prog_3_method_18_code
def y_Gr_closeRule : MethodName := ⟨R_Gr, "closeRule", "()I"⟩
def w_Gr_closeRule : List Cond := .code y_Gr_closeRule b_Gr_closeRule 1 (some .int) :: TB
theorem k_Gr_closeRule : Cond.code y_Gr_closeRule b_Gr_closeRule 1 (some .int) ∈ TB := tb_of 340 (by decide +kernel) (by decide +kernel)
theorem d_Gr_closeRule_0 : decode b_Gr_closeRule 0 = .ok (.aload_n 0, 1) := by decide +kernel
theorem d_Gr_closeRule_1 : decode b_Gr_closeRule 1 = .ok (.getfield 57, 3) := by decide +kernel
theorem d_Gr_closeRule_4 : decode b_Gr_closeRule 4 = .ok (.ifCond .eq 10, 3) := by decide +kernel
theorem d_Gr_closeRule_7 : decode b_Gr_closeRule 7 = .ok (.aload_n 0, 1) := by decide +kernel
theorem d_Gr_closeRule_8 : decode b_Gr_closeRule 8 = .ok (.invokevirtual 73, 3) := by decide +kernel
theorem d_Gr_closeRule_11 : decode b_Gr_closeRule 11 = .ok (.ifCond .ne 5, 3) := by decide +kernel
theorem d_Gr_closeRule_14 : decode b_Gr_closeRule 14 = .ok (.iconst (-1), 1) := by decide +kernel
theorem d_Gr_closeRule_15 : decode b_Gr_closeRule 15 = .ok (.ireturn, 1) := by decide +kernel
theorem d_Gr_closeRule_16 : decode b_Gr_closeRule 16 = .ok (.aload_n 0, 1) := by decide +kernel
theorem d_Gr_closeRule_17 : decode b_Gr_closeRule 17 = .ok (.iconst 0, 1) := by decide +kernel
theorem d_Gr_closeRule_18 : decode b_Gr_closeRule 18 = .ok (.putfield 57, 3) := by decide +kernel
theorem d_Gr_closeRule_21 : decode b_Gr_closeRule 21 = .ok (.aload_n 0, 1) := by decide +kernel
theorem d_Gr_closeRule_22 : decode b_Gr_closeRule 22 = .ok (.dup, 1) := by decide +kernel
theorem d_Gr_closeRule_23 : decode b_Gr_closeRule 23 = .ok (.getfield 37, 3) := by decide +kernel
theorem d_Gr_closeRule_26 : decode b_Gr_closeRule 26 = .ok (.iconst 1, 1) := by decide +kernel
theorem d_Gr_closeRule_27 : decode b_Gr_closeRule 27 = .ok (.iadd, 1) := by decide +kernel
theorem d_Gr_closeRule_28 : decode b_Gr_closeRule 28 = .ok (.putfield 37, 3) := by decide +kernel
theorem d_Gr_closeRule_31 : decode b_Gr_closeRule 31 = .ok (.aload_n 0, 1) := by decide +kernel
theorem d_Gr_closeRule_32 : decode b_Gr_closeRule 32 = .ok (.getfield 37, 3) := by decide +kernel
theorem d_Gr_closeRule_35 : decode b_Gr_closeRule 35 = .ok (.iconst 1, 1) := by decide +kernel
theorem d_Gr_closeRule_36 : decode b_Gr_closeRule 36 = .ok (.isub, 1) := by decide +kernel
theorem d_Gr_closeRule_37 : decode b_Gr_closeRule 37 = .ok (.ireturn, 1) := by decide +kernel
theorem ml_Gr_73 : Cond.methodLink R_Gr 73 ⟨"RuleTrees$Grammar", "begunLength", "()I"⟩ ∈ TB := tb_of 341 (by decide +kernel) (by decide +kernel)
theorem u_Gr_begunLength : (Cond.instanceMethod y_Gr_begunLength ∈ TB ∧ Cond.selects R_Gr y_Gr_begunLength y_Gr_begunLength ∈ TB) ∧ Cond.initialized R_Gr ∈ TB ∧ Cond.code y_Gr_begunLength b_Gr_begunLength 1 (some .int) ∈ TB := ⟨⟨(tb_of 342 (by decide +kernel) (by decide +kernel)), (tb_of 343 (by decide +kernel) (by decide +kernel))⟩, (tb_of 63 (by decide +kernel) (by decide +kernel)), k_Gr_begunLength⟩
abbrev rm_Gr_closeRule : Room := { frames := 1, cells := 0, slots := 0, locals := 20 }
def f_Gr_closeRule_0 (s_self : Nat → Nat → Int32) : Option ((Int32) × (Nat → Nat → Int32)) :=
  if (s_self 0 3) = 0 then
    some (((-1)), s_self)
  else
    bd1 (m_Gr_begunLength s_self) fun r_2 =>
    if r_2 = 0 then
      some (((-1)), s_self)
    else
      nm (st2 s_self 0 3 0) fun s_self_5 =>
      nm (st2 s_self_5 0 2 ((s_self_5 0 2) + 1)) fun s_self_6 =>
      some (((s_self_6 0 2) - 1), s_self_6)
set_option maxHeartbeats 4000000 in
set_option maxRecDepth 100000 in
theorem t_Gr_closeRule_0 {p : Program} {l : Launch} {e : Env} {s : State} {m : MethodId} {args : Array Value} {below : List Frame} {meth : Method} {c : Code} {A : Nat → Prop} {D : va_G} {K : Nat → ClassId} (a_self : Nat → Nat) (X : gx p s m args c b_Gr_closeRule 1 R_Gr w_Gr_closeRule D classes (tyK K) A) (hr : meth.sig.returnType = some .int) (hlk : meth.locks = false) (r : Int32) (f_self : Nat → Nat → Int32) (s_self : Nat → Nat → Int32) (h : f_Gr_closeRule_0 s_self = some (r, f_self)) : Gd p l e rm_Gr_closeRule s m args below meth c 0 0 (MQ below (sq D classes (tyK K) (some (.int r)) (wd_Gr K a_self f_self) A) args s 0 0 A) D classes A 1 0 (wd_Gr K a_self s_self) [(0, .ref (a_self 0))] [] := by
  unfold f_Gr_closeRule_0 at h
  refine gd_aload_n X d_Gr_closeRule_0 0 rfl ?_
  refine gd_get X (ci := 1) (C := R_Gr) (T := F_Gr) (N := 12) (v := .int (s_self 0 3)) 0 rfl rfl (in_Gr _) 3 (by decide) (List.mem_cons_of_mem _ fl_Gr_57) rfl rfl d_Gr_closeRule_1 ?_
  refine gd_if_eq X (tgt := 14) d_Gr_closeRule_4 (by decide) (fun c_1 => ?_) (fun c_1 => ?_)
  · replace h := it_p c_1 h
    refine gd_iconst X (v := (-1)) d_Gr_closeRule_14 (by decide) ?_
    cases h
    exact gd_iret X hr hlk d_Gr_closeRule_15
  · replace h := it_n c_1 h
    refine gd_aload_n X d_Gr_closeRule_7 0 rfl ?_
    obtain ⟨r_2, hc_3, h⟩ := bd1_e h
    refine gd_fI X (gd_V X (As := []) (rest := []) (c_Gr_begunLength l D K a_self s_self r_2 hc_3) 0 (gi_V ml_Gr_73 u_Gr_begunLength) rfl ⟨rfl, rfl⟩ (by decide +kernel) ⟨by decide, by decide⟩ (ci := 1) rfl rfl 0 rfl rfl rfl (Nat.le_of_ble_eq_true rfl) ⟨Nat.zero_le _, Nat.zero_le _⟩ d_Gr_closeRule_8) rfl ?_
    refine gd_if_ne X (tgt := 16) d_Gr_closeRule_11 (by decide) (fun c_4 => ?_) (fun c_4 => ?_)
    · replace h := it_n c_4 h
      refine gd_aload_n X d_Gr_closeRule_16 0 rfl ?_
      refine gd_iconst X (v := 0) d_Gr_closeRule_17 (by decide) ?_
      obtain ⟨s_self_5, es_self_5, h⟩ := nm_e' h
      refine gd_put X (ci := 1) (C := R_Gr) (T := F_Gr) (N := 12) (ty := .boolean) (w' := (wd_Gr K a_self s_self_5)) 0 rfl rfl (in_Gr _) t_Gr t_Gr_ok n_Gr 3 (by decide) (List.mem_cons_of_mem _ fl_Gr_57) rfl rfl (by decide +kernel) (by decide) (by decide) (Nat.le_of_ble_eq_true rfl) d_Gr_closeRule_18 (by rw [es_self_5]; rfl) ?_
      refine gd_aload_n X d_Gr_closeRule_21 0 rfl ?_
      refine gd_dup X d_Gr_closeRule_22 rfl ?_
      refine gd_get X (ci := 1) (C := R_Gr) (T := F_Gr) (N := 12) (v := .int (s_self_5 0 2)) 0 rfl rfl (in_Gr _) 2 (by decide) (List.mem_cons_of_mem _ fl_Gr_37) rfl rfl d_Gr_closeRule_23 ?_
      refine gd_iconst X (v := 1) d_Gr_closeRule_26 (by decide) ?_
      refine gd_iadd X d_Gr_closeRule_27 ?_
      obtain ⟨s_self_6, es_self_6, h⟩ := nm_e' h
      refine gd_put X (ci := 1) (C := R_Gr) (T := F_Gr) (N := 12) (ty := .int) (w' := (wd_Gr K a_self s_self_6)) 0 rfl rfl (in_Gr _) t_Gr t_Gr_ok n_Gr 2 (by decide) (List.mem_cons_of_mem _ fl_Gr_37) rfl rfl (by decide +kernel) rfl rfl (Nat.le_of_ble_eq_true rfl) d_Gr_closeRule_28 (by rw [es_self_6]; rfl) ?_
      refine gd_aload_n X d_Gr_closeRule_31 0 rfl ?_
      refine gd_get X (ci := 1) (C := R_Gr) (T := F_Gr) (N := 12) (v := .int (s_self_6 0 2)) 0 rfl rfl (in_Gr _) 2 (by decide) (List.mem_cons_of_mem _ fl_Gr_37) rfl rfl d_Gr_closeRule_32 ?_
      refine gd_iconst X (v := 1) d_Gr_closeRule_35 (by decide) ?_
      refine gd_isub X d_Gr_closeRule_36 ?_
      cases h
      exact gd_iret X hr hlk d_Gr_closeRule_37
    · replace h := it_p c_4 h
      refine gd_iconst X (v := (-1)) d_Gr_closeRule_14 (by decide) ?_
      cases h
      exact gd_iret X hr hlk d_Gr_closeRule_15
def m_Gr_closeRule (s_self : Nat → Nat → Int32) : Option ((Int32) × (Nat → Nat → Int32)) := f_Gr_closeRule_0 s_self
set_option maxHeartbeats 4000000 in
set_option maxRecDepth 100000 in
theorem c_Gr_closeRule (l : Launch) (D : va_G) (K : Nat → ClassId) (a_self : Nat → Nat) (s_self : Nat → Nat → Int32) (r : Int32) (f_self : Nat → Nat → Int32) (h : m_Gr_closeRule s_self = some (r, f_self)) : SMet l y_Gr_closeRule w_Gr_closeRule rm_Gr_closeRule D classes (tyK K) [.ref (a_self 0)] (some (.int r)) (wd_Gr K a_self s_self) (wd_Gr K a_self f_self) := by
  refine sm_of R_Gr (by decide) rfl rfl (Nat.le_of_ble_eq_true rfl) ?_
  intro p e s m below meth c A X hr hlk
  refine gd_loc (lv' := [(0, .ref (a_self 0))]) [0] rfl ?_
  exact t_Gr_closeRule_0 a_self X hr hlk r f_self s_self h
abbrev b_Wy_plus : ByteArray := prog_8_method_2_code
def y_Wy_plus : MethodName := ⟨R_Wy, "plus", "(II)I"⟩
def w_Wy_plus : List Cond := .code y_Wy_plus b_Wy_plus 2 (some .int) :: TB
theorem k_Wy_plus : Cond.code y_Wy_plus b_Wy_plus 2 (some .int) ∈ TB := tb_of 508 (by decide +kernel) (by decide +kernel)
theorem d_Wy_plus_0 : decode b_Wy_plus 0 = .ok (.iload_n 0, 1) := by decide +kernel
theorem d_Wy_plus_1 : decode b_Wy_plus 1 = .ok (.ldc 11, 2) := by decide +kernel
theorem d_Wy_plus_3 : decode b_Wy_plus 3 = .ok (.if_icmp .eq 9, 3) := by decide +kernel
theorem d_Wy_plus_6 : decode b_Wy_plus 6 = .ok (.iload_n 1, 1) := by decide +kernel
theorem d_Wy_plus_7 : decode b_Wy_plus 7 = .ok (.ldc 11, 2) := by decide +kernel
theorem d_Wy_plus_9 : decode b_Wy_plus 9 = .ok (.if_icmp .ne 6, 3) := by decide +kernel
theorem d_Wy_plus_12 : decode b_Wy_plus 12 = .ok (.ldc 11, 2) := by decide +kernel
theorem d_Wy_plus_14 : decode b_Wy_plus 14 = .ok (.ireturn, 1) := by decide +kernel
theorem d_Wy_plus_15 : decode b_Wy_plus 15 = .ok (.iload_n 0, 1) := by decide +kernel
theorem d_Wy_plus_16 : decode b_Wy_plus 16 = .ok (.iload_n 1, 1) := by decide +kernel
theorem d_Wy_plus_17 : decode b_Wy_plus 17 = .ok (.iadd, 1) := by decide +kernel
theorem d_Wy_plus_18 : decode b_Wy_plus 18 = .ok (.ldc 12, 2) := by decide +kernel
theorem d_Wy_plus_20 : decode b_Wy_plus 20 = .ok (.invokestatic 13, 3) := by decide +kernel
theorem d_Wy_plus_23 : decode b_Wy_plus 23 = .ok (.ireturn, 1) := by decide +kernel
theorem kc_Wy_11 : Cond.constant R_Wy 11 1000002 ∈ TB := tb_of 496 (by decide +kernel) (by decide +kernel)
theorem kc_Wy_12 : Cond.constant R_Wy 12 1000001 ∈ TB := tb_of 509 (by decide +kernel) (by decide +kernel)
theorem ml_Wy_13 : Cond.methodLink R_Wy 13 ⟨"java/lang/Math", "min", "(II)I"⟩ ∈ TB := tb_of 510 (by decide +kernel) (by decide +kernel)
abbrev rm_Wy_plus : Room := { frames := 1, cells := 0, slots := 0, locals := 21 }
def f_Wy_plus_0 (v0 v1 : Int32) : Option ((Int32)) :=
  if v0 = 1000002 then
    some (1000002)
  else
    if v1 = 1000002 then
      some (1000002)
    else
      nm (if 1000001 < (v0 + v1) then 1000001 else (v0 + v1)) fun v_3 =>
      some (v_3)
set_option maxHeartbeats 4000000 in
set_option maxRecDepth 100000 in
theorem t_Wy_plus_0 {p : Program} {l : Launch} {e : Env} {s : State} {m : MethodId} {args : Array Value} {below : List Frame} {meth : Method} {c : Code} {A : Nat → Prop} {D : va_G} {K : Nat → ClassId} (X : gx p s m args c b_Wy_plus 2 R_Wy w_Wy_plus D classes (tyK K) A) (hr : meth.sig.returnType = some .int) (hlk : meth.locks = false) (r : Int32) (v0 v1 : Int32) (h : f_Wy_plus_0 v0 v1 = some r) : Gd p l e rm_Wy_plus s m args below meth c 0 0 (MQ below (sq D classes (tyK K) (some (.int r)) ([] : va_W) A) args s 0 0 A) D classes A 2 0 ([] : va_W) [(0, .int v0), (1, .int v1)] [] := by
  unfold f_Wy_plus_0 at h
  refine gd_iload_n X d_Wy_plus_0 0 rfl ?_
  refine gd_ldc X (v := 1000002) (List.mem_cons_of_mem _ kc_Wy_11) d_Wy_plus_1 ?_
  refine gd_icmp_eq X (tgt := 12) d_Wy_plus_3 (by decide) (fun c_1 => ?_) (fun c_1 => ?_)
  · replace h := it_p c_1 h
    refine gd_ldc X (v := 1000002) (List.mem_cons_of_mem _ kc_Wy_11) d_Wy_plus_12 ?_
    cases h
    exact gd_iret X hr hlk d_Wy_plus_14
  · replace h := it_n c_1 h
    refine gd_iload_n X d_Wy_plus_6 1 rfl ?_
    refine gd_ldc X (v := 1000002) (List.mem_cons_of_mem _ kc_Wy_11) d_Wy_plus_7 ?_
    refine gd_icmp_ne X (tgt := 15) d_Wy_plus_9 (by decide) (fun c_2 => ?_) (fun c_2 => ?_)
    · replace h := it_n c_2 h
      refine gd_iload_n X d_Wy_plus_15 0 rfl ?_
      refine gd_iload_n X d_Wy_plus_16 1 rfl ?_
      refine gd_iadd X d_Wy_plus_17 ?_
      refine gd_ldc X (v := 1000001) (List.mem_cons_of_mem _ kc_Wy_12) d_Wy_plus_18 ?_
      obtain ⟨v_3, ev_3, h⟩ := nm_e' h
      refine gd_mmin X (List.mem_cons_of_mem _ ml_Wy_13) (List.mem_cons_of_mem _ mw_min_1) (List.mem_cons_of_mem _ mw_min_2) (List.mem_cons_of_mem _ mw_min_3) (Nat.le_of_ble_eq_true rfl) (Nat.le_of_ble_eq_true rfl) ⟨Nat.zero_le _, Nat.zero_le _⟩ d_Wy_plus_20 ?_
      refine gd_topi ev_3 ?_
      cases h
      exact gd_iret X hr hlk d_Wy_plus_23
    · replace h := it_p c_2 h
      refine gd_ldc X (v := 1000002) (List.mem_cons_of_mem _ kc_Wy_11) d_Wy_plus_12 ?_
      cases h
      exact gd_iret X hr hlk d_Wy_plus_14
def m_Wy_plus (v0 v1 : Int32) : Option ((Int32)) := f_Wy_plus_0 v0 v1
set_option maxHeartbeats 4000000 in
set_option maxRecDepth 100000 in
theorem c_Wy_plus (l : Launch) (D : va_G) (K : Nat → ClassId) (v0 v1 : Int32) (r : Int32) (h : m_Wy_plus v0 v1 = some r) : SMet l y_Wy_plus w_Wy_plus rm_Wy_plus D classes (tyK K) [.int v0, .int v1] (some (.int r)) ([] : va_W) ([] : va_W) := by
  refine sm_of R_Wy (by decide) rfl rfl (Nat.le_of_ble_eq_true rfl) ?_
  intro p e s m below meth c A X hr hlk
  refine gd_loc (lv' := [(0, .int v0), (1, .int v1)]) [0, 1] rfl ?_
  exact t_Wy_plus_0 X hr hlk r v0 v1 h
abbrev b_Wy_times : ByteArray := prog_8_method_3_code
def y_Wy_times : MethodName := ⟨R_Wy, "times", "(II)I"⟩
def w_Wy_times : List Cond := .code y_Wy_times b_Wy_times 2 (some .int) :: TB
theorem k_Wy_times : Cond.code y_Wy_times b_Wy_times 2 (some .int) ∈ TB := tb_of 495 (by decide +kernel) (by decide +kernel)
theorem d_Wy_times_0 : decode b_Wy_times 0 = .ok (.iload_n 0, 1) := by decide +kernel
theorem d_Wy_times_1 : decode b_Wy_times 1 = .ok (.ifCond .eq 7, 3) := by decide +kernel
theorem d_Wy_times_4 : decode b_Wy_times 4 = .ok (.iload_n 1, 1) := by decide +kernel
theorem d_Wy_times_5 : decode b_Wy_times 5 = .ok (.ifCond .ne 5, 3) := by decide +kernel
theorem d_Wy_times_8 : decode b_Wy_times 8 = .ok (.iconst 0, 1) := by decide +kernel
theorem d_Wy_times_9 : decode b_Wy_times 9 = .ok (.ireturn, 1) := by decide +kernel
theorem d_Wy_times_10 : decode b_Wy_times 10 = .ok (.iload_n 0, 1) := by decide +kernel
theorem d_Wy_times_11 : decode b_Wy_times 11 = .ok (.ldc 11, 2) := by decide +kernel
theorem d_Wy_times_13 : decode b_Wy_times 13 = .ok (.if_icmp .eq 9, 3) := by decide +kernel
theorem d_Wy_times_16 : decode b_Wy_times 16 = .ok (.iload_n 1, 1) := by decide +kernel
theorem d_Wy_times_17 : decode b_Wy_times 17 = .ok (.ldc 11, 2) := by decide +kernel
theorem d_Wy_times_19 : decode b_Wy_times 19 = .ok (.if_icmp .ne 6, 3) := by decide +kernel
theorem d_Wy_times_22 : decode b_Wy_times 22 = .ok (.ldc 11, 2) := by decide +kernel
theorem d_Wy_times_24 : decode b_Wy_times 24 = .ok (.ireturn, 1) := by decide +kernel
theorem d_Wy_times_25 : decode b_Wy_times 25 = .ok (.iload_n 0, 1) := by decide +kernel
theorem d_Wy_times_26 : decode b_Wy_times 26 = .ok (.i2l, 1) := by decide +kernel
theorem d_Wy_times_27 : decode b_Wy_times 27 = .ok (.iload_n 1, 1) := by decide +kernel
theorem d_Wy_times_28 : decode b_Wy_times 28 = .ok (.i2l, 1) := by decide +kernel
theorem d_Wy_times_29 : decode b_Wy_times 29 = .ok (.lmul, 1) := by decide +kernel
theorem d_Wy_times_30 : decode b_Wy_times 30 = .ok (.ldc2_w 19, 3) := by decide +kernel
theorem d_Wy_times_33 : decode b_Wy_times 33 = .ok (.invokestatic 21, 3) := by decide +kernel
theorem d_Wy_times_36 : decode b_Wy_times 36 = .ok (.l2i, 1) := by decide +kernel
theorem d_Wy_times_37 : decode b_Wy_times 37 = .ok (.ireturn, 1) := by decide +kernel
theorem kc_Wy_19 : Cond.constantLong R_Wy 19 1000001 ∈ TB := tb_of 497 (by decide +kernel) (by decide +kernel)
theorem ml_Wy_21 : Cond.methodLink R_Wy 21 ⟨"java/lang/Math", "min", "(JJ)J"⟩ ∈ TB := tb_of 498 (by decide +kernel) (by decide +kernel)
theorem mw_minl_1 : Cond.static Lib.MathLoose.min_long.x ∈ TB := tb_of 499 (by decide +kernel) (by decide +kernel)
theorem mw_minl_2 : Cond.initialized "java/lang/Math" ∈ TB := tb_of 68 (by decide +kernel) (by decide +kernel)
theorem mw_minl_3 : Cond.code Lib.MathLoose.min_long.x Lib.MathLoose.min_long.code 4 (some .long) ∈ TB := tb_of 500 (by decide +kernel) (by decide +kernel)
abbrev rm_Wy_times : Room := { frames := 1, cells := 0, slots := 0, locals := 23 }
def f_Wy_times_0 (v0 v1 : Int32) : Option ((Int32)) :=
  if v0 = 0 then
    some (0)
  else
    if v1 = 0 then
      some (0)
    else
      if v0 = 1000002 then
        some (1000002)
      else
        if v1 = 1000002 then
          some (1000002)
        else
          nm (if 1000001 < ((Int32.toInt64 v0) * (Int32.toInt64 v1)) then 1000001 else ((Int32.toInt64 v0) * (Int32.toInt64 v1))) fun v_5 =>
          some (Int64.toInt32 v_5)
set_option maxHeartbeats 4000000 in
set_option maxRecDepth 100000 in
theorem t_Wy_times_0 {p : Program} {l : Launch} {e : Env} {s : State} {m : MethodId} {args : Array Value} {below : List Frame} {meth : Method} {c : Code} {A : Nat → Prop} {D : va_G} {K : Nat → ClassId} (X : gx p s m args c b_Wy_times 2 R_Wy w_Wy_times D classes (tyK K) A) (hr : meth.sig.returnType = some .int) (hlk : meth.locks = false) (r : Int32) (v0 v1 : Int32) (h : f_Wy_times_0 v0 v1 = some r) : Gd p l e rm_Wy_times s m args below meth c 0 0 (MQ below (sq D classes (tyK K) (some (.int r)) ([] : va_W) A) args s 0 0 A) D classes A 2 0 ([] : va_W) [(0, .int v0), (1, .int v1)] [] := by
  unfold f_Wy_times_0 at h
  refine gd_iload_n X d_Wy_times_0 0 rfl ?_
  refine gd_if_eq X (tgt := 8) d_Wy_times_1 (by decide) (fun c_1 => ?_) (fun c_1 => ?_)
  · replace h := it_p c_1 h
    refine gd_iconst X (v := 0) d_Wy_times_8 (by decide) ?_
    cases h
    exact gd_iret X hr hlk d_Wy_times_9
  · replace h := it_n c_1 h
    refine gd_iload_n X d_Wy_times_4 1 rfl ?_
    refine gd_if_ne X (tgt := 10) d_Wy_times_5 (by decide) (fun c_2 => ?_) (fun c_2 => ?_)
    · replace h := it_n c_2 h
      refine gd_iload_n X d_Wy_times_10 0 rfl ?_
      refine gd_ldc X (v := 1000002) (List.mem_cons_of_mem _ kc_Wy_11) d_Wy_times_11 ?_
      refine gd_icmp_eq X (tgt := 22) d_Wy_times_13 (by decide) (fun c_3 => ?_) (fun c_3 => ?_)
      · replace h := it_p c_3 h
        refine gd_ldc X (v := 1000002) (List.mem_cons_of_mem _ kc_Wy_11) d_Wy_times_22 ?_
        cases h
        exact gd_iret X hr hlk d_Wy_times_24
      · replace h := it_n c_3 h
        refine gd_iload_n X d_Wy_times_16 1 rfl ?_
        refine gd_ldc X (v := 1000002) (List.mem_cons_of_mem _ kc_Wy_11) d_Wy_times_17 ?_
        refine gd_icmp_ne X (tgt := 25) d_Wy_times_19 (by decide) (fun c_4 => ?_) (fun c_4 => ?_)
        · replace h := it_n c_4 h
          refine gd_iload_n X d_Wy_times_25 0 rfl ?_
          refine gd_i2l X d_Wy_times_26 ?_
          refine gd_iload_n X d_Wy_times_27 1 rfl ?_
          refine gd_i2l X d_Wy_times_28 ?_
          refine gd_lmul X d_Wy_times_29 ?_
          refine gd_ldc2 X (v := 1000001) (List.mem_cons_of_mem _ kc_Wy_19) d_Wy_times_30 ?_
          obtain ⟨v_5, ev_5, h⟩ := nm_e' h
          refine gd_mminl X (List.mem_cons_of_mem _ ml_Wy_21) (List.mem_cons_of_mem _ mw_minl_1) (List.mem_cons_of_mem _ mw_minl_2) (List.mem_cons_of_mem _ mw_minl_3) (Nat.le_of_ble_eq_true rfl) (Nat.le_of_ble_eq_true rfl) ⟨Nat.zero_le _, Nat.zero_le _⟩ d_Wy_times_33 ?_
          refine gd_topl ev_5 ?_
          refine gd_l2i X d_Wy_times_36 ?_
          cases h
          exact gd_iret X hr hlk d_Wy_times_37
        · replace h := it_p c_4 h
          refine gd_ldc X (v := 1000002) (List.mem_cons_of_mem _ kc_Wy_11) d_Wy_times_22 ?_
          cases h
          exact gd_iret X hr hlk d_Wy_times_24
    · replace h := it_p c_2 h
      refine gd_iconst X (v := 0) d_Wy_times_8 (by decide) ?_
      cases h
      exact gd_iret X hr hlk d_Wy_times_9
def m_Wy_times (v0 v1 : Int32) : Option ((Int32)) := f_Wy_times_0 v0 v1
set_option maxHeartbeats 4000000 in
set_option maxRecDepth 100000 in
theorem c_Wy_times (l : Launch) (D : va_G) (K : Nat → ClassId) (v0 v1 : Int32) (r : Int32) (h : m_Wy_times v0 v1 = some r) : SMet l y_Wy_times w_Wy_times rm_Wy_times D classes (tyK K) [.int v0, .int v1] (some (.int r)) ([] : va_W) ([] : va_W) := by
  refine sm_of R_Wy (by decide) rfl rfl (Nat.le_of_ble_eq_true rfl) ?_
  intro p e s m below meth c A X hr hlk
  refine gd_loc (lv' := [(0, .int v0), (1, .int v1)]) [0, 1] rfl ?_
  exact t_Wy_times_0 X hr hlk r v0 v1 h
abbrev b_Wy_kindOf : ByteArray := prog_8_method_4_code
def y_Wy_kindOf : MethodName := ⟨R_Wy, "kindOf", "(I)I"⟩
def w_Wy_kindOf : List Cond := .code y_Wy_kindOf b_Wy_kindOf 1 (some .int) :: TB
theorem k_Wy_kindOf : Cond.code y_Wy_kindOf b_Wy_kindOf 1 (some .int) ∈ TB := tb_of 585 (by decide +kernel) (by decide +kernel)
theorem d_Wy_kindOf_0 : decode b_Wy_kindOf 0 = .ok (.iload_n 0, 1) := by decide +kernel
theorem d_Wy_kindOf_1 : decode b_Wy_kindOf 1 = .ok (.ldc 11, 2) := by decide +kernel
theorem d_Wy_kindOf_3 : decode b_Wy_kindOf 3 = .ok (.if_icmp .ne 5, 3) := by decide +kernel
theorem d_Wy_kindOf_6 : decode b_Wy_kindOf 6 = .ok (.iconst 3, 1) := by decide +kernel
theorem d_Wy_kindOf_7 : decode b_Wy_kindOf 7 = .ok (.ireturn, 1) := by decide +kernel
theorem d_Wy_kindOf_8 : decode b_Wy_kindOf 8 = .ok (.iload_n 0, 1) := by decide +kernel
theorem d_Wy_kindOf_9 : decode b_Wy_kindOf 9 = .ok (.iconst 2, 1) := by decide +kernel
theorem d_Wy_kindOf_10 : decode b_Wy_kindOf 10 = .ok (.invokestatic 13, 3) := by decide +kernel
theorem d_Wy_kindOf_13 : decode b_Wy_kindOf 13 = .ok (.ireturn, 1) := by decide +kernel
abbrev rm_Wy_kindOf : Room := { frames := 1, cells := 0, slots := 0, locals := 21 }
def f_Wy_kindOf_0 (v0 : Int32) : Option ((Int32)) :=
  if v0 = 1000002 then
    some (3)
  else
    nm (if 2 < v0 then 2 else v0) fun v_2 =>
    some (v_2)
set_option maxHeartbeats 4000000 in
set_option maxRecDepth 100000 in
theorem t_Wy_kindOf_0 {p : Program} {l : Launch} {e : Env} {s : State} {m : MethodId} {args : Array Value} {below : List Frame} {meth : Method} {c : Code} {A : Nat → Prop} {D : va_G} {K : Nat → ClassId} (X : gx p s m args c b_Wy_kindOf 1 R_Wy w_Wy_kindOf D classes (tyK K) A) (hr : meth.sig.returnType = some .int) (hlk : meth.locks = false) (r : Int32) (v0 : Int32) (h : f_Wy_kindOf_0 v0 = some r) : Gd p l e rm_Wy_kindOf s m args below meth c 0 0 (MQ below (sq D classes (tyK K) (some (.int r)) ([] : va_W) A) args s 0 0 A) D classes A 1 0 ([] : va_W) [(0, .int v0)] [] := by
  unfold f_Wy_kindOf_0 at h
  refine gd_iload_n X d_Wy_kindOf_0 0 rfl ?_
  refine gd_ldc X (v := 1000002) (List.mem_cons_of_mem _ kc_Wy_11) d_Wy_kindOf_1 ?_
  refine gd_icmp_ne X (tgt := 8) d_Wy_kindOf_3 (by decide) (fun c_1 => ?_) (fun c_1 => ?_)
  · replace h := it_n c_1 h
    refine gd_iload_n X d_Wy_kindOf_8 0 rfl ?_
    refine gd_iconst X (v := 2) d_Wy_kindOf_9 (by decide) ?_
    obtain ⟨v_2, ev_2, h⟩ := nm_e' h
    refine gd_mmin X (List.mem_cons_of_mem _ ml_Wy_13) (List.mem_cons_of_mem _ mw_min_1) (List.mem_cons_of_mem _ mw_min_2) (List.mem_cons_of_mem _ mw_min_3) (Nat.le_of_ble_eq_true rfl) (Nat.le_of_ble_eq_true rfl) ⟨Nat.zero_le _, Nat.zero_le _⟩ d_Wy_kindOf_10 ?_
    refine gd_topi ev_2 ?_
    cases h
    exact gd_iret X hr hlk d_Wy_kindOf_13
  · replace h := it_p c_1 h
    refine gd_iconst X (v := 3) d_Wy_kindOf_6 (by decide) ?_
    cases h
    exact gd_iret X hr hlk d_Wy_kindOf_7
def m_Wy_kindOf (v0 : Int32) : Option ((Int32)) := f_Wy_kindOf_0 v0
set_option maxHeartbeats 4000000 in
set_option maxRecDepth 100000 in
theorem c_Wy_kindOf (l : Launch) (D : va_G) (K : Nat → ClassId) (v0 : Int32) (r : Int32) (h : m_Wy_kindOf v0 = some r) : SMet l y_Wy_kindOf w_Wy_kindOf rm_Wy_kindOf D classes (tyK K) [.int v0] (some (.int r)) ([] : va_W) ([] : va_W) := by
  refine sm_of R_Wy (by decide) rfl rfl (Nat.le_of_ble_eq_true rfl) ?_
  intro p e s m below meth c A X hr hlk
  refine gd_loc (lv' := [(0, .int v0)]) [0] rfl ?_
  exact t_Wy_kindOf_0 X hr hlk r v0 h
abbrev b_Tt_treeOf : ByteArray := prog_7_method_2_code
def y_Tt_treeOf : MethodName := ⟨R_Tt, "treeOf", "(II)I"⟩
def w_Tt_treeOf : List Cond := .code y_Tt_treeOf b_Tt_treeOf 2 (some .int) :: TB
theorem k_Tt_treeOf : Cond.code y_Tt_treeOf b_Tt_treeOf 2 (some .int) ∈ TB := tb_of 435 (by decide +kernel) (by decide +kernel)
theorem d_Tt_treeOf_0 : decode b_Tt_treeOf 0 = .ok (.iconst 2, 1) := by decide +kernel
theorem d_Tt_treeOf_1 : decode b_Tt_treeOf 1 = .ok (.iload_n 0, 1) := by decide +kernel
theorem d_Tt_treeOf_2 : decode b_Tt_treeOf 2 = .ok (.imul, 1) := by decide +kernel
theorem d_Tt_treeOf_3 : decode b_Tt_treeOf 3 = .ok (.iload_n 1, 1) := by decide +kernel
theorem d_Tt_treeOf_4 : decode b_Tt_treeOf 4 = .ok (.iadd, 1) := by decide +kernel
theorem d_Tt_treeOf_5 : decode b_Tt_treeOf 5 = .ok (.ireturn, 1) := by decide +kernel
abbrev rm_Tt_treeOf : Room := { frames := 0, cells := 0, slots := 0, locals := 0 }
def f_Tt_treeOf_0 (v0 v1 : Int32) : Option ((Int32)) :=
  some ((2 * v0) + v1)
set_option maxHeartbeats 4000000 in
set_option maxRecDepth 100000 in
theorem t_Tt_treeOf_0 {p : Program} {l : Launch} {e : Env} {s : State} {m : MethodId} {args : Array Value} {below : List Frame} {meth : Method} {c : Code} {A : Nat → Prop} {D : va_G} {K : Nat → ClassId} (X : gx p s m args c b_Tt_treeOf 2 R_Tt w_Tt_treeOf D classes (tyK K) A) (hr : meth.sig.returnType = some .int) (hlk : meth.locks = false) (r : Int32) (v0 v1 : Int32) (h : f_Tt_treeOf_0 v0 v1 = some r) : Gd p l e rm_Tt_treeOf s m args below meth c 0 0 (MQ below (sq D classes (tyK K) (some (.int r)) ([] : va_W) A) args s 0 0 A) D classes A 2 0 ([] : va_W) [(0, .int v0), (1, .int v1)] [] := by
  unfold f_Tt_treeOf_0 at h
  refine gd_iconst X (v := 2) d_Tt_treeOf_0 (by decide) ?_
  refine gd_iload_n X d_Tt_treeOf_1 0 rfl ?_
  refine gd_imul X d_Tt_treeOf_2 ?_
  refine gd_iload_n X d_Tt_treeOf_3 1 rfl ?_
  refine gd_iadd X d_Tt_treeOf_4 ?_
  cases h
  exact gd_iret X hr hlk d_Tt_treeOf_5
def m_Tt_treeOf (v0 v1 : Int32) : Option ((Int32)) := f_Tt_treeOf_0 v0 v1
set_option maxHeartbeats 4000000 in
set_option maxRecDepth 100000 in
theorem c_Tt_treeOf (l : Launch) (D : va_G) (K : Nat → ClassId) (v0 v1 : Int32) (r : Int32) (h : m_Tt_treeOf v0 v1 = some r) : SMet l y_Tt_treeOf w_Tt_treeOf rm_Tt_treeOf D classes (tyK K) [.int v0, .int v1] (some (.int r)) ([] : va_W) ([] : va_W) := by
  refine sm_of R_Tt (by decide) rfl rfl (Nat.le_of_ble_eq_true rfl) ?_
  intro p e s m below meth c A X hr hlk
  refine gd_loc (lv' := [(0, .int v0), (1, .int v1)]) [0, 1] rfl ?_
  exact t_Tt_treeOf_0 X hr hlk r v0 v1 h
abbrev b_Tt_sizeAt : ByteArray := prog_7_method_3_code
def y_Tt_sizeAt : MethodName := ⟨R_Tt, "sizeAt", "(I)I"⟩
def w_Tt_sizeAt : List Cond := .code y_Tt_sizeAt b_Tt_sizeAt 2 (some .int) :: TB
theorem k_Tt_sizeAt : Cond.code y_Tt_sizeAt b_Tt_sizeAt 2 (some .int) ∈ TB := tb_of 462 (by decide +kernel) (by decide +kernel)
theorem d_Tt_sizeAt_0 : decode b_Tt_sizeAt 0 = .ok (.iload_n 1, 1) := by decide +kernel
theorem d_Tt_sizeAt_1 : decode b_Tt_sizeAt 1 = .ok (.ifCond .lt 19, 3) := by decide +kernel
theorem d_Tt_sizeAt_4 : decode b_Tt_sizeAt 4 = .ok (.iload_n 1, 1) := by decide +kernel
theorem d_Tt_sizeAt_5 : decode b_Tt_sizeAt 5 = .ok (.sipush 936, 3) := by decide +kernel
theorem d_Tt_sizeAt_8 : decode b_Tt_sizeAt 8 = .ok (.if_icmp .gt 12, 3) := by decide +kernel
theorem d_Tt_sizeAt_11 : decode b_Tt_sizeAt 11 = .ok (.aload_n 0, 1) := by decide +kernel
theorem d_Tt_sizeAt_12 : decode b_Tt_sizeAt 12 = .ok (.getfield 11, 3) := by decide +kernel
theorem d_Tt_sizeAt_15 : decode b_Tt_sizeAt 15 = .ok (.iload_n 1, 1) := by decide +kernel
theorem d_Tt_sizeAt_16 : decode b_Tt_sizeAt 16 = .ok (.iaload, 1) := by decide +kernel
theorem d_Tt_sizeAt_17 : decode b_Tt_sizeAt 17 = .ok (.goto 4, 3) := by decide +kernel
theorem d_Tt_sizeAt_20 : decode b_Tt_sizeAt 20 = .ok (.iconst 0, 1) := by decide +kernel
theorem d_Tt_sizeAt_21 : decode b_Tt_sizeAt 21 = .ok (.ireturn, 1) := by decide +kernel
theorem fl_Tt_11 : Cond.fieldLink R_Tt 11 "RuleTrees$TreeTable" "sizes" "[I" ∈ TB := tb_of 141 (by decide +kernel) (by decide +kernel)
abbrev rm_Tt_sizeAt : Room := { frames := 0, cells := 0, slots := 0, locals := 0 }
def f_Tt_sizeAt_0 (s_self : Nat → Nat → Int32) (v1 : Int32) : Option ((Int32)) :=
  if v1 < 0 then
    some (0)
  else
    if 936 < v1 then
      some (0)
    else
      ck v1 937 <|
      some (s_self 1 (Int32.toNatClampNeg v1))
set_option maxHeartbeats 4000000 in
set_option maxRecDepth 100000 in
theorem t_Tt_sizeAt_0 {p : Program} {l : Launch} {e : Env} {s : State} {m : MethodId} {args : Array Value} {below : List Frame} {meth : Method} {c : Code} {A : Nat → Prop} {D : va_G} {K : Nat → ClassId} (a_self : Nat → Nat) (X : gx p s m args c b_Tt_sizeAt 2 R_Tt w_Tt_sizeAt D classes (tyK K) A) (hr : meth.sig.returnType = some .int) (hlk : meth.locks = false) (r : Int32) (s_self : Nat → Nat → Int32) (v1 : Int32) (h : f_Tt_sizeAt_0 s_self v1 = some r) : Gd p l e rm_Tt_sizeAt s m args below meth c 0 0 (MQ below (sq D classes (tyK K) (some (.int r)) (wd_Tt K a_self s_self) A) args s 0 0 A) D classes A 2 0 (wd_Tt K a_self s_self) [(0, .ref (a_self 0)), (1, .int v1)] [] := by
  unfold f_Tt_sizeAt_0 at h
  refine gd_iload_n X d_Tt_sizeAt_0 1 rfl ?_
  refine gd_if_lt X (tgt := 20) d_Tt_sizeAt_1 (by decide) (fun c_1 => ?_) (fun c_1 => ?_)
  · replace h := it_p c_1 h
    refine gd_iconst X (v := 0) d_Tt_sizeAt_20 (by decide) ?_
    cases h
    exact gd_iret X hr hlk d_Tt_sizeAt_21
  · replace h := it_n c_1 h
    refine gd_iload_n X d_Tt_sizeAt_4 1 rfl ?_
    refine gd_sipush X (v := 936) d_Tt_sizeAt_5 (by decide) ?_
    refine gd_icmp_gt X (tgt := 20) d_Tt_sizeAt_8 (by decide) (fun c_2 => ?_) (fun c_2 => ?_)
    · replace h := it_p c_2 h
      refine gd_iconst X (v := 0) d_Tt_sizeAt_20 (by decide) ?_
      cases h
      exact gd_iret X hr hlk d_Tt_sizeAt_21
    · replace h := it_n c_2 h
      refine gd_aload_n X d_Tt_sizeAt_11 0 rfl ?_
      refine gd_get X (ci := 2) (C := R_Tt) (T := F_Tt) (N := 6) (v := .ref (a_self 1)) 0 rfl rfl (in_Tt _) 0 (by decide) (List.mem_cons_of_mem _ fl_Tt_11) rfl rfl d_Tt_sizeAt_12 ?_
      refine gd_iload_n X d_Tt_sizeAt_15 1 rfl ?_
      obtain ⟨hi_3, h⟩ := ck_e h
      refine gd_iald X 1 0 rfl rfl hi_3 d_Tt_sizeAt_16 ?_
      refine gd_goto X (tgt := 21) d_Tt_sizeAt_17 (by decide) ?_
      cases h
      exact gd_iret X hr hlk d_Tt_sizeAt_21
def m_Tt_sizeAt (s_self : Nat → Nat → Int32) (v1 : Int32) : Option ((Int32)) := f_Tt_sizeAt_0 s_self v1
set_option maxHeartbeats 4000000 in
set_option maxRecDepth 100000 in
theorem c_Tt_sizeAt (l : Launch) (D : va_G) (K : Nat → ClassId) (a_self : Nat → Nat) (s_self : Nat → Nat → Int32) (v1 : Int32) (r : Int32) (h : m_Tt_sizeAt s_self v1 = some r) : SMet l y_Tt_sizeAt w_Tt_sizeAt rm_Tt_sizeAt D classes (tyK K) [.ref (a_self 0), .int v1] (some (.int r)) (wd_Tt K a_self s_self) (wd_Tt K a_self s_self) := by
  refine sm_of R_Tt (by decide) rfl rfl (Nat.le_of_ble_eq_true rfl) ?_
  intro p e s m below meth c A X hr hlk
  refine gd_loc (lv' := [(0, .ref (a_self 0)), (1, .int v1)]) [0, 1] rfl ?_
  exact t_Tt_sizeAt_0 a_self X hr hlk r s_self v1 h
abbrev b_Tt_isCell : ByteArray := prog_7_method_9_code
def y_Tt_isCell : MethodName := ⟨R_Tt, "isCell", "(I)Z"⟩
def w_Tt_isCell : List Cond := .code y_Tt_isCell b_Tt_isCell 1 (some .boolean) :: TB
theorem k_Tt_isCell : Cond.code y_Tt_isCell b_Tt_isCell 1 (some .boolean) ∈ TB := tb_of 432 (by decide +kernel) (by decide +kernel)
theorem d_Tt_isCell_0 : decode b_Tt_isCell 0 = .ok (.iload_n 0, 1) := by decide +kernel
theorem d_Tt_isCell_1 : decode b_Tt_isCell 1 = .ok (.ifCond .lt 14, 3) := by decide +kernel
theorem d_Tt_isCell_4 : decode b_Tt_isCell 4 = .ok (.iload_n 0, 1) := by decide +kernel
theorem d_Tt_isCell_5 : decode b_Tt_isCell 5 = .ok (.sipush 468, 3) := by decide +kernel
theorem d_Tt_isCell_8 : decode b_Tt_isCell 8 = .ok (.if_icmp .ge 7, 3) := by decide +kernel
theorem d_Tt_isCell_11 : decode b_Tt_isCell 11 = .ok (.iconst 1, 1) := by decide +kernel
theorem d_Tt_isCell_12 : decode b_Tt_isCell 12 = .ok (.goto 4, 3) := by decide +kernel
theorem d_Tt_isCell_15 : decode b_Tt_isCell 15 = .ok (.iconst 0, 1) := by decide +kernel
theorem d_Tt_isCell_16 : decode b_Tt_isCell 16 = .ok (.ireturn, 1) := by decide +kernel
abbrev rm_Tt_isCell : Room := { frames := 0, cells := 0, slots := 0, locals := 0 }
def f_Tt_isCell_0 (v0 : Int32) : Option ((Int32)) :=
  if v0 < 0 then
    some (0)
  else
    if 468 ≤ v0 then
      some (0)
    else
      some (1)
set_option maxHeartbeats 4000000 in
set_option maxRecDepth 100000 in
theorem t_Tt_isCell_0 {p : Program} {l : Launch} {e : Env} {s : State} {m : MethodId} {args : Array Value} {below : List Frame} {meth : Method} {c : Code} {A : Nat → Prop} {D : va_G} {K : Nat → ClassId} (X : gx p s m args c b_Tt_isCell 1 R_Tt w_Tt_isCell D classes (tyK K) A) (hr : meth.sig.returnType = some .boolean) (hlk : meth.locks = false) (r : Int32) (v0 : Int32) (h : f_Tt_isCell_0 v0 = some r) : Gd p l e rm_Tt_isCell s m args below meth c 0 0 (MQ below (sq D classes (tyK K) (some (.int r)) ([] : va_W) A) args s 0 0 A) D classes A 1 0 ([] : va_W) [(0, .int v0)] [] := by
  unfold f_Tt_isCell_0 at h
  refine gd_iload_n X d_Tt_isCell_0 0 rfl ?_
  refine gd_if_lt X (tgt := 15) d_Tt_isCell_1 (by decide) (fun c_1 => ?_) (fun c_1 => ?_)
  · replace h := it_p c_1 h
    refine gd_iconst X (v := 0) d_Tt_isCell_15 (by decide) ?_
    cases h
    exact gd_zret X hr hlk (by decide) d_Tt_isCell_16
  · replace h := it_n c_1 h
    refine gd_iload_n X d_Tt_isCell_4 0 rfl ?_
    refine gd_sipush X (v := 468) d_Tt_isCell_5 (by decide) ?_
    refine gd_icmp_ge X (tgt := 15) d_Tt_isCell_8 (by decide) (fun c_2 => ?_) (fun c_2 => ?_)
    · replace h := it_p c_2 h
      refine gd_iconst X (v := 0) d_Tt_isCell_15 (by decide) ?_
      cases h
      exact gd_zret X hr hlk (by decide) d_Tt_isCell_16
    · replace h := it_n c_2 h
      refine gd_iconst X (v := 1) d_Tt_isCell_11 (by decide) ?_
      refine gd_goto X (tgt := 16) d_Tt_isCell_12 (by decide) ?_
      cases h
      exact gd_zret X hr hlk (by decide) d_Tt_isCell_16
def m_Tt_isCell (v0 : Int32) : Option ((Int32)) := f_Tt_isCell_0 v0
set_option maxHeartbeats 4000000 in
set_option maxRecDepth 100000 in
theorem c_Tt_isCell (l : Launch) (D : va_G) (K : Nat → ClassId) (v0 : Int32) (r : Int32) (h : m_Tt_isCell v0 = some r) : SMet l y_Tt_isCell w_Tt_isCell rm_Tt_isCell D classes (tyK K) [.int v0] (some (.int r)) ([] : va_W) ([] : va_W) := by
  refine sm_of R_Tt (by decide) rfl rfl (Nat.le_of_ble_eq_true rfl) ?_
  intro p e s m below meth c A X hr hlk
  refine gd_loc (lv' := [(0, .int v0)]) [0] rfl ?_
  exact t_Tt_isCell_0 X hr hlk r v0 h
abbrev b_Tt_forget : ByteArray := prog_7_method_4_code
def y_Tt_forget : MethodName := ⟨R_Tt, "forget", "(I)V"⟩
def w_Tt_forget : List Cond := .code y_Tt_forget b_Tt_forget 2 none :: TB
theorem k_Tt_forget : Cond.code y_Tt_forget b_Tt_forget 2 none ∈ TB := tb_of 429 (by decide +kernel) (by decide +kernel)
theorem d_Tt_forget_0 : decode b_Tt_forget 0 = .ok (.iload_n 1, 1) := by decide +kernel
theorem d_Tt_forget_1 : decode b_Tt_forget 1 = .ok (.invokestatic 30, 3) := by decide +kernel
theorem d_Tt_forget_4 : decode b_Tt_forget 4 = .ok (.ifCond .eq 25, 3) := by decide +kernel
theorem d_Tt_forget_7 : decode b_Tt_forget 7 = .ok (.aload_n 0, 1) := by decide +kernel
theorem d_Tt_forget_8 : decode b_Tt_forget 8 = .ok (.getfield 11, 3) := by decide +kernel
theorem d_Tt_forget_11 : decode b_Tt_forget 11 = .ok (.iload_n 1, 1) := by decide +kernel
theorem d_Tt_forget_12 : decode b_Tt_forget 12 = .ok (.iconst 0, 1) := by decide +kernel
theorem d_Tt_forget_13 : decode b_Tt_forget 13 = .ok (.invokestatic 34, 3) := by decide +kernel
theorem d_Tt_forget_16 : decode b_Tt_forget 16 = .ok (.iconst 0, 1) := by decide +kernel
theorem d_Tt_forget_17 : decode b_Tt_forget 17 = .ok (.iastore, 1) := by decide +kernel
theorem d_Tt_forget_18 : decode b_Tt_forget 18 = .ok (.aload_n 0, 1) := by decide +kernel
theorem d_Tt_forget_19 : decode b_Tt_forget 19 = .ok (.getfield 11, 3) := by decide +kernel
theorem d_Tt_forget_22 : decode b_Tt_forget 22 = .ok (.iload_n 1, 1) := by decide +kernel
theorem d_Tt_forget_23 : decode b_Tt_forget 23 = .ok (.iconst 1, 1) := by decide +kernel
theorem d_Tt_forget_24 : decode b_Tt_forget 24 = .ok (.invokestatic 34, 3) := by decide +kernel
theorem d_Tt_forget_27 : decode b_Tt_forget 27 = .ok (.iconst 0, 1) := by decide +kernel
theorem d_Tt_forget_28 : decode b_Tt_forget 28 = .ok (.iastore, 1) := by decide +kernel
theorem d_Tt_forget_29 : decode b_Tt_forget 29 = .ok (.return_, 1) := by decide +kernel
theorem ml_Tt_30 : Cond.methodLink R_Tt 30 ⟨"RuleTrees$TreeTable", "isCell", "(I)Z"⟩ ∈ TB := tb_of 430 (by decide +kernel) (by decide +kernel)
theorem u_Tt_isCell : Cond.static y_Tt_isCell ∈ TB ∧ Cond.initialized y_Tt_isCell.cls ∈ TB ∧ Cond.code y_Tt_isCell b_Tt_isCell 1 (some .boolean) ∈ TB := ⟨(tb_of 431 (by decide +kernel) (by decide +kernel)), (tb_of 65 (by decide +kernel) (by decide +kernel)), k_Tt_isCell⟩
theorem ml_Tt_34 : Cond.methodLink R_Tt 34 ⟨"RuleTrees$TreeTable", "treeOf", "(II)I"⟩ ∈ TB := tb_of 433 (by decide +kernel) (by decide +kernel)
theorem u_Tt_treeOf : Cond.static y_Tt_treeOf ∈ TB ∧ Cond.initialized y_Tt_treeOf.cls ∈ TB ∧ Cond.code y_Tt_treeOf b_Tt_treeOf 2 (some .int) ∈ TB := ⟨(tb_of 434 (by decide +kernel) (by decide +kernel)), (tb_of 65 (by decide +kernel) (by decide +kernel)), k_Tt_treeOf⟩
abbrev rm_Tt_forget : Room := { frames := 1, cells := 0, slots := 0, locals := 21 }
def f_Tt_forget_0 (s_self : Nat → Nat → Int32) (v1 : Int32) : Option ((Nat → Nat → Int32)) :=
  bd1 (m_Tt_isCell v1) fun r_1 =>
  if r_1 = 0 then
    some s_self
  else
    bd1 (m_Tt_treeOf v1 0) fun r_4 =>
    ck r_4 937 <| nm (st2 s_self 1 (Int32.toNatClampNeg r_4) 0) fun s_self_7 =>
    bd1 (m_Tt_treeOf v1 1) fun r_8 =>
    ck r_8 937 <| nm (st2 s_self_7 1 (Int32.toNatClampNeg r_8) 0) fun s_self_11 =>
    some s_self_11
set_option maxHeartbeats 4000000 in
set_option maxRecDepth 100000 in
theorem t_Tt_forget_0 {p : Program} {l : Launch} {e : Env} {s : State} {m : MethodId} {args : Array Value} {below : List Frame} {meth : Method} {c : Code} {A : Nat → Prop} {D : va_G} {K : Nat → ClassId} (a_self : Nat → Nat) (X : gx p s m args c b_Tt_forget 2 R_Tt w_Tt_forget D classes (tyK K) A) (hr : meth.sig.returnType = none) (hlk : meth.locks = false) (f_self : Nat → Nat → Int32) (s_self : Nat → Nat → Int32) (v1 : Int32) (h : f_Tt_forget_0 s_self v1 = some f_self) : Gd p l e rm_Tt_forget s m args below meth c 0 0 (MQ below (sq D classes (tyK K) none (wd_Tt K a_self f_self) A) args s 0 0 A) D classes A 2 0 (wd_Tt K a_self s_self) [(0, .ref (a_self 0)), (1, .int v1)] [] := by
  unfold f_Tt_forget_0 at h
  refine gd_iload_n X d_Tt_forget_0 1 rfl ?_
  obtain ⟨r_1, hc_2, h⟩ := bd1_e h
  refine gd_pI X (gd_Sc X (As := [.int v1]) (rest := []) (c_Tt_isCell l D K v1 r_1 hc_2) 1 (gi_S ml_Tt_30 u_Tt_isCell) rfl ⟨rfl, rfl⟩ (by decide +kernel) ⟨by decide, by decide⟩ rfl rfl (Nat.le_of_ble_eq_true rfl) ⟨Nat.zero_le _, Nat.zero_le _⟩ d_Tt_forget_1) [] rfl rfl ?_
  refine gd_if_eq X (tgt := 29) d_Tt_forget_4 (by decide) (fun c_3 => ?_) (fun c_3 => ?_)
  · replace h := it_p c_3 h
    cases h
    exact gd_vret X hr hlk d_Tt_forget_29
  · replace h := it_n c_3 h
    refine gd_aload_n X d_Tt_forget_7 0 rfl ?_
    refine gd_get X (ci := 2) (C := R_Tt) (T := F_Tt) (N := 6) (v := .ref (a_self 1)) 0 rfl rfl (in_Tt _) 0 (by decide) (List.mem_cons_of_mem _ fl_Tt_11) rfl rfl d_Tt_forget_8 ?_
    refine gd_iload_n X d_Tt_forget_11 1 rfl ?_
    refine gd_iconst X (v := 0) d_Tt_forget_12 (by decide) ?_
    obtain ⟨r_4, hc_5, h⟩ := bd1_e h
    refine gd_pI X (gd_Sc X (As := [.int v1, .int 0]) (rest := [.ref (a_self 1)]) (c_Tt_treeOf l D K v1 0 r_4 hc_5) 2 (gi_S ml_Tt_34 u_Tt_treeOf) rfl ⟨rfl, rfl⟩ (by decide +kernel) ⟨by decide, by decide⟩ rfl rfl (Nat.le_of_ble_eq_true rfl) ⟨Nat.zero_le _, Nat.zero_le _⟩ d_Tt_forget_13) [] rfl rfl ?_
    refine gd_iconst X (v := 0) d_Tt_forget_16 (by decide) ?_
    obtain ⟨hi_6, h⟩ := ck_e h
    obtain ⟨s_self_7, es_self_7, h⟩ := nm_e' h
    refine gd_iast X (w' := (wd_Tt K a_self s_self_7)) 1 0 rfl rfl hi_6 d_Tt_forget_17 (by rw [es_self_7]; rfl) ?_
    refine gd_aload_n X d_Tt_forget_18 0 rfl ?_
    refine gd_get X (ci := 2) (C := R_Tt) (T := F_Tt) (N := 6) (v := .ref (a_self 1)) 0 rfl rfl (in_Tt _) 0 (by decide) (List.mem_cons_of_mem _ fl_Tt_11) rfl rfl d_Tt_forget_19 ?_
    refine gd_iload_n X d_Tt_forget_22 1 rfl ?_
    refine gd_iconst X (v := 1) d_Tt_forget_23 (by decide) ?_
    obtain ⟨r_8, hc_9, h⟩ := bd1_e h
    refine gd_pI X (gd_Sc X (As := [.int v1, .int 1]) (rest := [.ref (a_self 1)]) (c_Tt_treeOf l D K v1 1 r_8 hc_9) 2 (gi_S ml_Tt_34 u_Tt_treeOf) rfl ⟨rfl, rfl⟩ (by decide +kernel) ⟨by decide, by decide⟩ rfl rfl (Nat.le_of_ble_eq_true rfl) ⟨Nat.zero_le _, Nat.zero_le _⟩ d_Tt_forget_24) [] rfl rfl ?_
    refine gd_iconst X (v := 0) d_Tt_forget_27 (by decide) ?_
    obtain ⟨hi_10, h⟩ := ck_e h
    obtain ⟨s_self_11, es_self_11, h⟩ := nm_e' h
    refine gd_iast X (w' := (wd_Tt K a_self s_self_11)) 1 0 rfl rfl hi_10 d_Tt_forget_28 (by rw [es_self_11]; rfl) ?_
    cases h
    exact gd_vret X hr hlk d_Tt_forget_29
def m_Tt_forget (s_self : Nat → Nat → Int32) (v1 : Int32) : Option ((Nat → Nat → Int32)) := f_Tt_forget_0 s_self v1
set_option maxHeartbeats 4000000 in
set_option maxRecDepth 100000 in
theorem c_Tt_forget (l : Launch) (D : va_G) (K : Nat → ClassId) (a_self : Nat → Nat) (s_self : Nat → Nat → Int32) (v1 : Int32) (f_self : Nat → Nat → Int32) (h : m_Tt_forget s_self v1 = some f_self) : SMet l y_Tt_forget w_Tt_forget rm_Tt_forget D classes (tyK K) [.ref (a_self 0), .int v1] none (wd_Tt K a_self s_self) (wd_Tt K a_self f_self) := by
  refine sm_of R_Tt (by decide) rfl rfl (Nat.le_of_ble_eq_true rfl) ?_
  intro p e s m below meth c A X hr hlk
  refine gd_loc (lv' := [(0, .ref (a_self 0)), (1, .int v1)]) [0, 1] rfl ?_
  exact t_Tt_forget_0 a_self X hr hlk f_self s_self v1 h
abbrev b_Tt_startDraft : ByteArray := prog_7_method_5_code
def y_Tt_startDraft : MethodName := ⟨R_Tt, "startDraft", "(II)V"⟩
def w_Tt_startDraft : List Cond := .code y_Tt_startDraft b_Tt_startDraft 3 none :: TB
theorem k_Tt_startDraft : Cond.code y_Tt_startDraft b_Tt_startDraft 3 none ∈ TB := tb_of 447 (by decide +kernel) (by decide +kernel)
theorem d_Tt_startDraft_0 : decode b_Tt_startDraft 0 = .ok (.aload_n 0, 1) := by decide +kernel
theorem d_Tt_startDraft_1 : decode b_Tt_startDraft 1 = .ok (.getfield 15, 3) := by decide +kernel
theorem d_Tt_startDraft_4 : decode b_Tt_startDraft 4 = .ok (.sipush 936, 3) := by decide +kernel
theorem d_Tt_startDraft_7 : decode b_Tt_startDraft 7 = .ok (.iload_n 1, 1) := by decide +kernel
theorem d_Tt_startDraft_8 : decode b_Tt_startDraft 8 = .ok (.iastore, 1) := by decide +kernel
theorem d_Tt_startDraft_9 : decode b_Tt_startDraft 9 = .ok (.aload_n 0, 1) := by decide +kernel
theorem d_Tt_startDraft_10 : decode b_Tt_startDraft 10 = .ok (.getfield 18, 3) := by decide +kernel
theorem d_Tt_startDraft_13 : decode b_Tt_startDraft 13 = .ok (.sipush 936, 3) := by decide +kernel
theorem d_Tt_startDraft_16 : decode b_Tt_startDraft 16 = .ok (.iload_n 2, 1) := by decide +kernel
theorem d_Tt_startDraft_17 : decode b_Tt_startDraft 17 = .ok (.iconst 4, 1) := by decide +kernel
theorem d_Tt_startDraft_18 : decode b_Tt_startDraft 18 = .ok (.invokestatic 38, 3) := by decide +kernel
theorem d_Tt_startDraft_21 : decode b_Tt_startDraft 21 = .ok (.iastore, 1) := by decide +kernel
theorem d_Tt_startDraft_22 : decode b_Tt_startDraft 22 = .ok (.return_, 1) := by decide +kernel
theorem fl_Tt_15 : Cond.fieldLink R_Tt 15 "RuleTrees$TreeTable" "heads" "[I" ∈ TB := tb_of 142 (by decide +kernel) (by decide +kernel)
theorem fl_Tt_18 : Cond.fieldLink R_Tt 18 "RuleTrees$TreeTable" "partCounts" "[I" ∈ TB := tb_of 143 (by decide +kernel) (by decide +kernel)
theorem ml_Tt_38 : Cond.methodLink R_Tt 38 ⟨"java/lang/Math", "min", "(II)I"⟩ ∈ TB := tb_of 448 (by decide +kernel) (by decide +kernel)
abbrev rm_Tt_startDraft : Room := { frames := 1, cells := 0, slots := 0, locals := 21 }
def f_Tt_startDraft_0 (s_self : Nat → Nat → Int32) (v1 v2 : Int32) : Option ((Nat → Nat → Int32)) :=
  ck 936 937 <| nm (st2 s_self 2 (Int32.toNatClampNeg 936) v1) fun s_self_2 =>
  nm (if 4 < v2 then 4 else v2) fun v_3 =>
  ck 936 937 <| nm (st2 s_self_2 3 (Int32.toNatClampNeg 936) v_3) fun s_self_5 =>
  some s_self_5
set_option maxHeartbeats 4000000 in
set_option maxRecDepth 100000 in
theorem t_Tt_startDraft_0 {p : Program} {l : Launch} {e : Env} {s : State} {m : MethodId} {args : Array Value} {below : List Frame} {meth : Method} {c : Code} {A : Nat → Prop} {D : va_G} {K : Nat → ClassId} (a_self : Nat → Nat) (X : gx p s m args c b_Tt_startDraft 3 R_Tt w_Tt_startDraft D classes (tyK K) A) (hr : meth.sig.returnType = none) (hlk : meth.locks = false) (f_self : Nat → Nat → Int32) (s_self : Nat → Nat → Int32) (v1 v2 : Int32) (h : f_Tt_startDraft_0 s_self v1 v2 = some f_self) : Gd p l e rm_Tt_startDraft s m args below meth c 0 0 (MQ below (sq D classes (tyK K) none (wd_Tt K a_self f_self) A) args s 0 0 A) D classes A 3 0 (wd_Tt K a_self s_self) [(0, .ref (a_self 0)), (1, .int v1), (2, .int v2)] [] := by
  unfold f_Tt_startDraft_0 at h
  refine gd_aload_n X d_Tt_startDraft_0 0 rfl ?_
  refine gd_get X (ci := 2) (C := R_Tt) (T := F_Tt) (N := 6) (v := .ref (a_self 2)) 0 rfl rfl (in_Tt _) 1 (by decide) (List.mem_cons_of_mem _ fl_Tt_15) rfl rfl d_Tt_startDraft_1 ?_
  refine gd_sipush X (v := 936) d_Tt_startDraft_4 (by decide) ?_
  refine gd_iload_n X d_Tt_startDraft_7 1 rfl ?_
  obtain ⟨hi_1, h⟩ := ck_e h
  obtain ⟨s_self_2, es_self_2, h⟩ := nm_e' h
  refine gd_iast X (w' := (wd_Tt K a_self s_self_2)) 2 0 rfl rfl hi_1 d_Tt_startDraft_8 (by rw [es_self_2]; rfl) ?_
  refine gd_aload_n X d_Tt_startDraft_9 0 rfl ?_
  refine gd_get X (ci := 2) (C := R_Tt) (T := F_Tt) (N := 6) (v := .ref (a_self 3)) 0 rfl rfl (in_Tt _) 2 (by decide) (List.mem_cons_of_mem _ fl_Tt_18) rfl rfl d_Tt_startDraft_10 ?_
  refine gd_sipush X (v := 936) d_Tt_startDraft_13 (by decide) ?_
  refine gd_iload_n X d_Tt_startDraft_16 2 rfl ?_
  refine gd_iconst X (v := 4) d_Tt_startDraft_17 (by decide) ?_
  obtain ⟨v_3, ev_3, h⟩ := nm_e' h
  refine gd_mmin X (List.mem_cons_of_mem _ ml_Tt_38) (List.mem_cons_of_mem _ mw_min_1) (List.mem_cons_of_mem _ mw_min_2) (List.mem_cons_of_mem _ mw_min_3) (Nat.le_of_ble_eq_true rfl) (Nat.le_of_ble_eq_true rfl) ⟨Nat.zero_le _, Nat.zero_le _⟩ d_Tt_startDraft_18 ?_
  refine gd_topi ev_3 ?_
  obtain ⟨hi_4, h⟩ := ck_e h
  obtain ⟨s_self_5, es_self_5, h⟩ := nm_e' h
  refine gd_iast X (w' := (wd_Tt K a_self s_self_5)) 3 0 rfl rfl hi_4 d_Tt_startDraft_21 (by rw [es_self_5]; rfl) ?_
  cases h
  exact gd_vret X hr hlk d_Tt_startDraft_22
def m_Tt_startDraft (s_self : Nat → Nat → Int32) (v1 v2 : Int32) : Option ((Nat → Nat → Int32)) := f_Tt_startDraft_0 s_self v1 v2
set_option maxHeartbeats 4000000 in
set_option maxRecDepth 100000 in
theorem c_Tt_startDraft (l : Launch) (D : va_G) (K : Nat → ClassId) (a_self : Nat → Nat) (s_self : Nat → Nat → Int32) (v1 v2 : Int32) (f_self : Nat → Nat → Int32) (h : m_Tt_startDraft s_self v1 v2 = some f_self) : SMet l y_Tt_startDraft w_Tt_startDraft rm_Tt_startDraft D classes (tyK K) [.ref (a_self 0), .int v1, .int v2] none (wd_Tt K a_self s_self) (wd_Tt K a_self f_self) := by
  refine sm_of R_Tt (by decide) rfl rfl (Nat.le_of_ble_eq_true rfl) ?_
  intro p e s m below meth c A X hr hlk
  refine gd_loc (lv' := [(0, .ref (a_self 0)), (1, .int v1), (2, .int v2)]) [0, 1, 2] rfl ?_
  exact t_Tt_startDraft_0 a_self X hr hlk f_self s_self v1 v2 h
abbrev b_Tt_setDraftPart : ByteArray := prog_7_method_6_code
def y_Tt_setDraftPart : MethodName := ⟨R_Tt, "setDraftPart", "(II)V"⟩
def w_Tt_setDraftPart : List Cond := .code y_Tt_setDraftPart b_Tt_setDraftPart 3 none :: TB
theorem k_Tt_setDraftPart : Cond.code y_Tt_setDraftPart b_Tt_setDraftPart 3 none ∈ TB := tb_of 505 (by decide +kernel) (by decide +kernel)
theorem d_Tt_setDraftPart_0 : decode b_Tt_setDraftPart 0 = .ok (.iload_n 1, 1) := by decide +kernel
theorem d_Tt_setDraftPart_1 : decode b_Tt_setDraftPart 1 = .ok (.ifCond .lt 30, 3) := by decide +kernel
theorem d_Tt_setDraftPart_4 : decode b_Tt_setDraftPart 4 = .ok (.iload_n 1, 1) := by decide +kernel
theorem d_Tt_setDraftPart_5 : decode b_Tt_setDraftPart 5 = .ok (.iconst 4, 1) := by decide +kernel
theorem d_Tt_setDraftPart_6 : decode b_Tt_setDraftPart 6 = .ok (.if_icmp .ge 25, 3) := by decide +kernel
theorem d_Tt_setDraftPart_9 : decode b_Tt_setDraftPart 9 = .ok (.iload_n 2, 1) := by decide +kernel
theorem d_Tt_setDraftPart_10 : decode b_Tt_setDraftPart 10 = .ok (.ifCond .lt 21, 3) := by decide +kernel
theorem d_Tt_setDraftPart_13 : decode b_Tt_setDraftPart 13 = .ok (.iload_n 2, 1) := by decide +kernel
theorem d_Tt_setDraftPart_14 : decode b_Tt_setDraftPart 14 = .ok (.sipush 936, 3) := by decide +kernel
theorem d_Tt_setDraftPart_17 : decode b_Tt_setDraftPart 17 = .ok (.if_icmp .ge 14, 3) := by decide +kernel
theorem d_Tt_setDraftPart_20 : decode b_Tt_setDraftPart 20 = .ok (.aload_n 0, 1) := by decide +kernel
theorem d_Tt_setDraftPart_21 : decode b_Tt_setDraftPart 21 = .ok (.getfield 21, 3) := by decide +kernel
theorem d_Tt_setDraftPart_24 : decode b_Tt_setDraftPart 24 = .ok (.sipush 3744, 3) := by decide +kernel
theorem d_Tt_setDraftPart_27 : decode b_Tt_setDraftPart 27 = .ok (.iload_n 1, 1) := by decide +kernel
theorem d_Tt_setDraftPart_28 : decode b_Tt_setDraftPart 28 = .ok (.iadd, 1) := by decide +kernel
theorem d_Tt_setDraftPart_29 : decode b_Tt_setDraftPart 29 = .ok (.iload_n 2, 1) := by decide +kernel
theorem d_Tt_setDraftPart_30 : decode b_Tt_setDraftPart 30 = .ok (.iastore, 1) := by decide +kernel
theorem d_Tt_setDraftPart_31 : decode b_Tt_setDraftPart 31 = .ok (.return_, 1) := by decide +kernel
theorem fl_Tt_21 : Cond.fieldLink R_Tt 21 "RuleTrees$TreeTable" "parts" "[I" ∈ TB := tb_of 144 (by decide +kernel) (by decide +kernel)
abbrev rm_Tt_setDraftPart : Room := { frames := 0, cells := 0, slots := 0, locals := 0 }
def f_Tt_setDraftPart_0 (s_self : Nat → Nat → Int32) (v1 v2 : Int32) : Option ((Nat → Nat → Int32)) :=
  if v1 < 0 then
    some s_self
  else
    if 4 ≤ v1 then
      some s_self
    else
      if v2 < 0 then
        some s_self
      else
        if 936 ≤ v2 then
          some s_self
        else
          ck (3744 + v1) 3748 <| nm (st2 s_self 4 (Int32.toNatClampNeg (3744 + v1)) v2) fun s_self_6 =>
          some s_self_6
set_option maxHeartbeats 4000000 in
set_option maxRecDepth 100000 in
theorem t_Tt_setDraftPart_0 {p : Program} {l : Launch} {e : Env} {s : State} {m : MethodId} {args : Array Value} {below : List Frame} {meth : Method} {c : Code} {A : Nat → Prop} {D : va_G} {K : Nat → ClassId} (a_self : Nat → Nat) (X : gx p s m args c b_Tt_setDraftPart 3 R_Tt w_Tt_setDraftPart D classes (tyK K) A) (hr : meth.sig.returnType = none) (hlk : meth.locks = false) (f_self : Nat → Nat → Int32) (s_self : Nat → Nat → Int32) (v1 v2 : Int32) (h : f_Tt_setDraftPart_0 s_self v1 v2 = some f_self) : Gd p l e rm_Tt_setDraftPart s m args below meth c 0 0 (MQ below (sq D classes (tyK K) none (wd_Tt K a_self f_self) A) args s 0 0 A) D classes A 3 0 (wd_Tt K a_self s_self) [(0, .ref (a_self 0)), (1, .int v1), (2, .int v2)] [] := by
  unfold f_Tt_setDraftPart_0 at h
  refine gd_iload_n X d_Tt_setDraftPart_0 1 rfl ?_
  refine gd_if_lt X (tgt := 31) d_Tt_setDraftPart_1 (by decide) (fun c_1 => ?_) (fun c_1 => ?_)
  · replace h := it_p c_1 h
    cases h
    exact gd_vret X hr hlk d_Tt_setDraftPart_31
  · replace h := it_n c_1 h
    refine gd_iload_n X d_Tt_setDraftPart_4 1 rfl ?_
    refine gd_iconst X (v := 4) d_Tt_setDraftPart_5 (by decide) ?_
    refine gd_icmp_ge X (tgt := 31) d_Tt_setDraftPart_6 (by decide) (fun c_2 => ?_) (fun c_2 => ?_)
    · replace h := it_p c_2 h
      cases h
      exact gd_vret X hr hlk d_Tt_setDraftPart_31
    · replace h := it_n c_2 h
      refine gd_iload_n X d_Tt_setDraftPart_9 2 rfl ?_
      refine gd_if_lt X (tgt := 31) d_Tt_setDraftPart_10 (by decide) (fun c_3 => ?_) (fun c_3 => ?_)
      · replace h := it_p c_3 h
        cases h
        exact gd_vret X hr hlk d_Tt_setDraftPart_31
      · replace h := it_n c_3 h
        refine gd_iload_n X d_Tt_setDraftPart_13 2 rfl ?_
        refine gd_sipush X (v := 936) d_Tt_setDraftPart_14 (by decide) ?_
        refine gd_icmp_ge X (tgt := 31) d_Tt_setDraftPart_17 (by decide) (fun c_4 => ?_) (fun c_4 => ?_)
        · replace h := it_p c_4 h
          cases h
          exact gd_vret X hr hlk d_Tt_setDraftPart_31
        · replace h := it_n c_4 h
          refine gd_aload_n X d_Tt_setDraftPart_20 0 rfl ?_
          refine gd_get X (ci := 2) (C := R_Tt) (T := F_Tt) (N := 6) (v := .ref (a_self 4)) 0 rfl rfl (in_Tt _) 3 (by decide) (List.mem_cons_of_mem _ fl_Tt_21) rfl rfl d_Tt_setDraftPart_21 ?_
          refine gd_sipush X (v := 3744) d_Tt_setDraftPart_24 (by decide) ?_
          refine gd_iload_n X d_Tt_setDraftPart_27 1 rfl ?_
          refine gd_iadd X d_Tt_setDraftPart_28 ?_
          refine gd_iload_n X d_Tt_setDraftPart_29 2 rfl ?_
          obtain ⟨hi_5, h⟩ := ck_e h
          obtain ⟨s_self_6, es_self_6, h⟩ := nm_e' h
          refine gd_iast X (w' := (wd_Tt K a_self s_self_6)) 4 0 rfl rfl hi_5 d_Tt_setDraftPart_30 (by rw [es_self_6]; rfl) ?_
          cases h
          exact gd_vret X hr hlk d_Tt_setDraftPart_31
def m_Tt_setDraftPart (s_self : Nat → Nat → Int32) (v1 v2 : Int32) : Option ((Nat → Nat → Int32)) := f_Tt_setDraftPart_0 s_self v1 v2
set_option maxHeartbeats 4000000 in
set_option maxRecDepth 100000 in
theorem c_Tt_setDraftPart (l : Launch) (D : va_G) (K : Nat → ClassId) (a_self : Nat → Nat) (s_self : Nat → Nat → Int32) (v1 v2 : Int32) (f_self : Nat → Nat → Int32) (h : m_Tt_setDraftPart s_self v1 v2 = some f_self) : SMet l y_Tt_setDraftPart w_Tt_setDraftPart rm_Tt_setDraftPart D classes (tyK K) [.ref (a_self 0), .int v1, .int v2] none (wd_Tt K a_self s_self) (wd_Tt K a_self f_self) := by
  refine sm_of R_Tt (by decide) rfl rfl (Nat.le_of_ble_eq_true rfl) ?_
  intro p e s m below meth c A X hr hlk
  refine gd_loc (lv' := [(0, .ref (a_self 0)), (1, .int v1), (2, .int v2)]) [0, 1, 2] rfl ?_
  exact t_Tt_setDraftPart_0 a_self X hr hlk f_self s_self v1 v2 h
