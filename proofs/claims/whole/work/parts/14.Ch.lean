abbrev b_Ch_cellOf : ByteArray := prog_2_method_6_code
def y_Ch_cellOf : MethodName := ⟨R_Ch, "cellOf", "(III)I"⟩
def w_Ch_cellOf : List Cond := .code y_Ch_cellOf b_Ch_cellOf 3 (some .int) :: TB
theorem k_Ch_cellOf : Cond.code y_Ch_cellOf b_Ch_cellOf 3 (some .int) ∈ TB := tb_of 421 (by decide +kernel) (by decide +kernel)
theorem d_Ch_cellOf_0 : decode b_Ch_cellOf 0 = .ok (.iload_n 0, 1) := by decide +kernel
theorem d_Ch_cellOf_1 : decode b_Ch_cellOf 1 = .ok (.ifCond .lt 24, 3) := by decide +kernel
theorem d_Ch_cellOf_4 : decode b_Ch_cellOf 4 = .ok (.iload_n 0, 1) := by decide +kernel
theorem d_Ch_cellOf_5 : decode b_Ch_cellOf 5 = .ok (.bipush 6, 2) := by decide +kernel
theorem d_Ch_cellOf_7 : decode b_Ch_cellOf 7 = .ok (.if_icmp .ge 18, 3) := by decide +kernel
theorem d_Ch_cellOf_10 : decode b_Ch_cellOf 10 = .ok (.iload_n 1, 1) := by decide +kernel
theorem d_Ch_cellOf_11 : decode b_Ch_cellOf 11 = .ok (.ifCond .lt 14, 3) := by decide +kernel
theorem d_Ch_cellOf_14 : decode b_Ch_cellOf 14 = .ok (.iload_n 1, 1) := by decide +kernel
theorem d_Ch_cellOf_15 : decode b_Ch_cellOf 15 = .ok (.iload_n 2, 1) := by decide +kernel
theorem d_Ch_cellOf_16 : decode b_Ch_cellOf 16 = .ok (.if_icmp .ge 9, 3) := by decide +kernel
theorem d_Ch_cellOf_19 : decode b_Ch_cellOf 19 = .ok (.iload_n 2, 1) := by decide +kernel
theorem d_Ch_cellOf_20 : decode b_Ch_cellOf 20 = .ok (.bipush 12, 2) := by decide +kernel
theorem d_Ch_cellOf_22 : decode b_Ch_cellOf 22 = .ok (.if_icmp .le 5, 3) := by decide +kernel
theorem d_Ch_cellOf_25 : decode b_Ch_cellOf 25 = .ok (.iconst (-1), 1) := by decide +kernel
theorem d_Ch_cellOf_26 : decode b_Ch_cellOf 26 = .ok (.ireturn, 1) := by decide +kernel
theorem d_Ch_cellOf_27 : decode b_Ch_cellOf 27 = .ok (.iload_n 2, 1) := by decide +kernel
theorem d_Ch_cellOf_28 : decode b_Ch_cellOf 28 = .ok (.iload_n 2, 1) := by decide +kernel
theorem d_Ch_cellOf_29 : decode b_Ch_cellOf 29 = .ok (.iconst 1, 1) := by decide +kernel
theorem d_Ch_cellOf_30 : decode b_Ch_cellOf 30 = .ok (.isub, 1) := by decide +kernel
theorem d_Ch_cellOf_31 : decode b_Ch_cellOf 31 = .ok (.imul, 1) := by decide +kernel
theorem d_Ch_cellOf_32 : decode b_Ch_cellOf 32 = .ok (.iconst 2, 1) := by decide +kernel
theorem d_Ch_cellOf_33 : decode b_Ch_cellOf 33 = .ok (.idiv, 1) := by decide +kernel
theorem d_Ch_cellOf_34 : decode b_Ch_cellOf 34 = .ok (.iload_n 1, 1) := by decide +kernel
theorem d_Ch_cellOf_35 : decode b_Ch_cellOf 35 = .ok (.iadd, 1) := by decide +kernel
theorem d_Ch_cellOf_36 : decode b_Ch_cellOf 36 = .ok (.bipush 6, 2) := by decide +kernel
theorem d_Ch_cellOf_38 : decode b_Ch_cellOf 38 = .ok (.imul, 1) := by decide +kernel
theorem d_Ch_cellOf_39 : decode b_Ch_cellOf 39 = .ok (.iload_n 0, 1) := by decide +kernel
theorem d_Ch_cellOf_40 : decode b_Ch_cellOf 40 = .ok (.iadd, 1) := by decide +kernel
theorem d_Ch_cellOf_41 : decode b_Ch_cellOf 41 = .ok (.ireturn, 1) := by decide +kernel
abbrev rm_Ch_cellOf : Room := { frames := 0, cells := 0, slots := 0, locals := 0 }
def f_Ch_cellOf_0 (v0 v1 v2 : Int32) : Option ((Int32)) :=
  if v0 < 0 then
    some ((-1))
  else
    if 6 ≤ v0 then
      some ((-1))
    else
      if v1 < 0 then
        some ((-1))
      else
        if v2 ≤ v1 then
          some ((-1))
        else
          if v2 ≤ 12 then
            some (((((v2 * (v2 - 1)) / 2) + v1) * 6) + v0)
          else
            some ((-1))
set_option maxHeartbeats 4000000 in
set_option maxRecDepth 100000 in
theorem t_Ch_cellOf_0 {p : Program} {l : Launch} {e : Env} {s : State} {m : MethodId} {args : Array Value} {below : List Frame} {meth : Method} {c : Code} {A : Nat → Prop} {D : va_G} {K : Nat → ClassId} (X : gx p s m args c b_Ch_cellOf 3 R_Ch w_Ch_cellOf D classes (tyK K) A) (hr : meth.sig.returnType = some .int) (hlk : meth.locks = false) (r : Int32) (v0 v1 v2 : Int32) (h : f_Ch_cellOf_0 v0 v1 v2 = some r) : Gd p l e rm_Ch_cellOf s m args below meth c 0 0 (MQ below (sq D classes (tyK K) (some (.int r)) ([] : List va_W) A) args s 0 0 A) D classes A 3 0 ([] : List va_W) [(0, .int v0), (1, .int v1), (2, .int v2)] [] := by
  unfold f_Ch_cellOf_0 at h
  refine gd_iload_n X d_Ch_cellOf_0 0 rfl ?_
  refine gd_if_lt X (tgt := 25) d_Ch_cellOf_1 (by decide) (fun c_1 => ?_) (fun c_1 => ?_)
  · replace h := it_p c_1 h
    refine gd_iconst X (v := (-1)) d_Ch_cellOf_25 (by decide) ?_
    cases h
    exact gd_iret X hr hlk d_Ch_cellOf_26
  · replace h := it_n c_1 h
    refine gd_iload_n X d_Ch_cellOf_4 0 rfl ?_
    refine gd_bipush X (v := 6) d_Ch_cellOf_5 (by decide) ?_
    refine gd_icmp_ge X (tgt := 25) d_Ch_cellOf_7 (by decide) (fun c_2 => ?_) (fun c_2 => ?_)
    · replace h := it_p c_2 h
      refine gd_iconst X (v := (-1)) d_Ch_cellOf_25 (by decide) ?_
      cases h
      exact gd_iret X hr hlk d_Ch_cellOf_26
    · replace h := it_n c_2 h
      refine gd_iload_n X d_Ch_cellOf_10 1 rfl ?_
      refine gd_if_lt X (tgt := 25) d_Ch_cellOf_11 (by decide) (fun c_3 => ?_) (fun c_3 => ?_)
      · replace h := it_p c_3 h
        refine gd_iconst X (v := (-1)) d_Ch_cellOf_25 (by decide) ?_
        cases h
        exact gd_iret X hr hlk d_Ch_cellOf_26
      · replace h := it_n c_3 h
        refine gd_iload_n X d_Ch_cellOf_14 1 rfl ?_
        refine gd_iload_n X d_Ch_cellOf_15 2 rfl ?_
        refine gd_icmp_ge X (tgt := 25) d_Ch_cellOf_16 (by decide) (fun c_4 => ?_) (fun c_4 => ?_)
        · replace h := it_p c_4 h
          refine gd_iconst X (v := (-1)) d_Ch_cellOf_25 (by decide) ?_
          cases h
          exact gd_iret X hr hlk d_Ch_cellOf_26
        · replace h := it_n c_4 h
          refine gd_iload_n X d_Ch_cellOf_19 2 rfl ?_
          refine gd_bipush X (v := 12) d_Ch_cellOf_20 (by decide) ?_
          refine gd_icmp_le X (tgt := 27) d_Ch_cellOf_22 (by decide) (fun c_5 => ?_) (fun c_5 => ?_)
          · replace h := it_p c_5 h
            refine gd_iload_n X d_Ch_cellOf_27 2 rfl ?_
            refine gd_iload_n X d_Ch_cellOf_28 2 rfl ?_
            refine gd_iconst X (v := 1) d_Ch_cellOf_29 (by decide) ?_
            refine gd_isub X d_Ch_cellOf_30 ?_
            refine gd_imul X d_Ch_cellOf_31 ?_
            refine gd_iconst X (v := 2) d_Ch_cellOf_32 (by decide) ?_
            refine gd_idiv X d_Ch_cellOf_33 (by decide) ?_
            refine gd_iload_n X d_Ch_cellOf_34 1 rfl ?_
            refine gd_iadd X d_Ch_cellOf_35 ?_
            refine gd_bipush X (v := 6) d_Ch_cellOf_36 (by decide) ?_
            refine gd_imul X d_Ch_cellOf_38 ?_
            refine gd_iload_n X d_Ch_cellOf_39 0 rfl ?_
            refine gd_iadd X d_Ch_cellOf_40 ?_
            cases h
            exact gd_iret X hr hlk d_Ch_cellOf_41
          · replace h := it_n c_5 h
            refine gd_iconst X (v := (-1)) d_Ch_cellOf_25 (by decide) ?_
            cases h
            exact gd_iret X hr hlk d_Ch_cellOf_26
def m_Ch_cellOf (v0 v1 v2 : Int32) : Option ((Int32)) := f_Ch_cellOf_0 v0 v1 v2
set_option maxHeartbeats 4000000 in
set_option maxRecDepth 100000 in
theorem c_Ch_cellOf (l : Launch) (D : va_G) (K : Nat → ClassId) (v0 v1 v2 : Int32) (r : Int32) (h : m_Ch_cellOf v0 v1 v2 = some r) : SMet l y_Ch_cellOf w_Ch_cellOf rm_Ch_cellOf D classes (tyK K) [.int v0, .int v1, .int v2] (some (.int r)) ([] : List va_W) ([] : List va_W) := by
  refine sm_of R_Ch (by decide) rfl rfl (Nat.le_of_ble_eq_true rfl) ?_
  intro p e s m below meth c A X hr hlk
  refine gd_loc (lv' := [(0, .int v0), (1, .int v1), (2, .int v2)]) [0, 1, 2] rfl ?_
  exact t_Ch_cellOf_0 X hr hlk r v0 v1 v2 h
abbrev b_Ch_waysAt : ByteArray := prog_2_method_7_code
def y_Ch_waysAt : MethodName := ⟨R_Ch, "waysAt", "(I)I"⟩
def w_Ch_waysAt : List Cond := .code y_Ch_waysAt b_Ch_waysAt 2 (some .int) :: TB
theorem k_Ch_waysAt : Cond.code y_Ch_waysAt b_Ch_waysAt 2 (some .int) ∈ TB := tb_of 492 (by decide +kernel) (by decide +kernel)
theorem d_Ch_waysAt_0 : decode b_Ch_waysAt 0 = .ok (.iload_n 1, 1) := by decide +kernel
theorem d_Ch_waysAt_1 : decode b_Ch_waysAt 1 = .ok (.ifCond .lt 19, 3) := by decide +kernel
theorem d_Ch_waysAt_4 : decode b_Ch_waysAt 4 = .ok (.iload_n 1, 1) := by decide +kernel
theorem d_Ch_waysAt_5 : decode b_Ch_waysAt 5 = .ok (.sipush 468, 3) := by decide +kernel
theorem d_Ch_waysAt_8 : decode b_Ch_waysAt 8 = .ok (.if_icmp .ge 12, 3) := by decide +kernel
theorem d_Ch_waysAt_11 : decode b_Ch_waysAt 11 = .ok (.aload_n 0, 1) := by decide +kernel
theorem d_Ch_waysAt_12 : decode b_Ch_waysAt 12 = .ok (.getfield 22, 3) := by decide +kernel
theorem d_Ch_waysAt_15 : decode b_Ch_waysAt 15 = .ok (.iload_n 1, 1) := by decide +kernel
theorem d_Ch_waysAt_16 : decode b_Ch_waysAt 16 = .ok (.iaload, 1) := by decide +kernel
theorem d_Ch_waysAt_17 : decode b_Ch_waysAt 17 = .ok (.goto 4, 3) := by decide +kernel
theorem d_Ch_waysAt_20 : decode b_Ch_waysAt 20 = .ok (.iconst 0, 1) := by decide +kernel
theorem d_Ch_waysAt_21 : decode b_Ch_waysAt 21 = .ok (.ireturn, 1) := by decide +kernel
theorem fl_Ch_22 : Cond.fieldLink R_Ch 22 "RuleTrees$Chart" "ways" "[I" ∈ TB := tb_of 162 (by decide +kernel) (by decide +kernel)
abbrev rm_Ch_waysAt : Room := { frames := 0, cells := 0, slots := 0, locals := 0 }
def f_Ch_waysAt_0 (s_self : Nat → Nat → Int32) (v1 : Int32) : Option ((Int32)) :=
  if v1 < 0 then
    some (0)
  else
    if 468 ≤ v1 then
      some (0)
    else
      ck v1 468 <|
      some (s_self 1 (Int32.toNatClampNeg v1))
set_option maxHeartbeats 4000000 in
set_option maxRecDepth 100000 in
theorem t_Ch_waysAt_0 {p : Program} {l : Launch} {e : Env} {s : State} {m : MethodId} {args : Array Value} {below : List Frame} {meth : Method} {c : Code} {A : Nat → Prop} {D : va_G} {K : Nat → ClassId} (a_self a_grammar a_table : Nat → Nat) (X : gx p s m args c b_Ch_waysAt 2 R_Ch w_Ch_waysAt D classes (tyK K) A) (hr : meth.sig.returnType = some .int) (hlk : meth.locks = false) (r : Int32) (s_self : Nat → Nat → Int32) (v1 : Int32) (h : f_Ch_waysAt_0 s_self v1 = some r) : Gd p l e rm_Ch_waysAt s m args below meth c 0 0 (MQ below (sq D classes (tyK K) (some (.int r)) [wd_Ch K a_self (a_grammar 0) (a_table 0) s_self] A) args s 0 0 A) D classes A 2 0 [wd_Ch K a_self (a_grammar 0) (a_table 0) s_self] [(0, .ref (a_self 0)), (1, .int v1)] [] := by
  unfold f_Ch_waysAt_0 at h
  refine gd_iload_n X d_Ch_waysAt_0 1 rfl ?_
  refine gd_if_lt X (tgt := 20) d_Ch_waysAt_1 (by decide) (fun c_1 => ?_) (fun c_1 => ?_)
  · replace h := it_p c_1 h
    refine gd_iconst X (v := 0) d_Ch_waysAt_20 (by decide) ?_
    cases h
    exact gd_iret X hr hlk d_Ch_waysAt_21
  · replace h := it_n c_1 h
    refine gd_iload_n X d_Ch_waysAt_4 1 rfl ?_
    refine gd_sipush X (v := 468) d_Ch_waysAt_5 (by decide) ?_
    refine gd_icmp_ge X (tgt := 20) d_Ch_waysAt_8 (by decide) (fun c_2 => ?_) (fun c_2 => ?_)
    · replace h := it_p c_2 h
      refine gd_iconst X (v := 0) d_Ch_waysAt_20 (by decide) ?_
      cases h
      exact gd_iret X hr hlk d_Ch_waysAt_21
    · replace h := it_n c_2 h
      refine gd_aload_n X d_Ch_waysAt_11 0 rfl ?_
      refine gd_get X (ci := 3) (C := R_Ch) (T := F_Ch) (N := 12) (v := .ref (a_self 1)) 0 0 rfl rfl rfl (in_Ch _) 2 (by decide) (List.mem_cons_of_mem _ fl_Ch_22) rfl rfl d_Ch_waysAt_12 ?_
      refine gd_iload_n X d_Ch_waysAt_15 1 rfl ?_
      obtain ⟨hi_3, h⟩ := ck_e h
      refine gd_iald X 0 1 0 rfl rfl rfl hi_3 d_Ch_waysAt_16 ?_
      refine gd_goto X (tgt := 21) d_Ch_waysAt_17 (by decide) ?_
      cases h
      exact gd_iret X hr hlk d_Ch_waysAt_21
def m_Ch_waysAt (s_self : Nat → Nat → Int32) (v1 : Int32) : Option ((Int32)) := f_Ch_waysAt_0 s_self v1
set_option maxHeartbeats 4000000 in
set_option maxRecDepth 100000 in
theorem c_Ch_waysAt (l : Launch) (D : va_G) (K : Nat → ClassId) (a_self a_grammar a_table : Nat → Nat) (s_self : Nat → Nat → Int32) (v1 : Int32) (r : Int32) (h : m_Ch_waysAt s_self v1 = some r) : SMet l y_Ch_waysAt w_Ch_waysAt rm_Ch_waysAt D classes (tyK K) [.ref (a_self 0), .int v1] (some (.int r)) [wd_Ch K a_self (a_grammar 0) (a_table 0) s_self] [wd_Ch K a_self (a_grammar 0) (a_table 0) s_self] := by
  refine sm_of R_Ch (by decide) rfl rfl (Nat.le_of_ble_eq_true rfl) ?_
  intro p e s m below meth c A X hr hlk
  refine gd_loc (lv' := [(0, .ref (a_self 0)), (1, .int v1)]) [0, 1] rfl ?_
  exact t_Ch_waysAt_0 a_self a_grammar a_table X hr hlk r s_self v1 h
abbrev b_Ch_waysOf : ByteArray := prog_2_method_2_code
def y_Ch_waysOf : MethodName := ⟨R_Ch, "waysOf", "(III)I"⟩
def w_Ch_waysOf : List Cond := .code y_Ch_waysOf b_Ch_waysOf 4 (some .int) :: TB
theorem k_Ch_waysOf : Cond.code y_Ch_waysOf b_Ch_waysOf 4 (some .int) ∈ TB := tb_of 527 (by decide +kernel) (by decide +kernel)
theorem d_Ch_waysOf_0 : decode b_Ch_waysOf 0 = .ok (.aload_n 0, 1) := by decide +kernel
theorem d_Ch_waysOf_1 : decode b_Ch_waysOf 1 = .ok (.iload_n 1, 1) := by decide +kernel
theorem d_Ch_waysOf_2 : decode b_Ch_waysOf 2 = .ok (.iload_n 2, 1) := by decide +kernel
theorem d_Ch_waysOf_3 : decode b_Ch_waysOf 3 = .ok (.iload_n 3, 1) := by decide +kernel
theorem d_Ch_waysOf_4 : decode b_Ch_waysOf 4 = .ok (.invokestatic 44, 3) := by decide +kernel
theorem d_Ch_waysOf_7 : decode b_Ch_waysOf 7 = .ok (.invokevirtual 48, 3) := by decide +kernel
theorem d_Ch_waysOf_10 : decode b_Ch_waysOf 10 = .ok (.ireturn, 1) := by decide +kernel
theorem ml_Ch_44 : Cond.methodLink R_Ch 44 ⟨"RuleTrees$Chart", "cellOf", "(III)I"⟩ ∈ TB := tb_of 419 (by decide +kernel) (by decide +kernel)
theorem u_Ch_cellOf : Cond.static y_Ch_cellOf ∈ TB ∧ Cond.initialized y_Ch_cellOf.cls ∈ TB ∧ Cond.code y_Ch_cellOf b_Ch_cellOf 3 (some .int) ∈ TB := ⟨(tb_of 420 (by decide +kernel) (by decide +kernel)), (tb_of 64 (by decide +kernel) (by decide +kernel)), k_Ch_cellOf⟩
theorem ml_Ch_48 : Cond.methodLink R_Ch 48 ⟨"RuleTrees$Chart", "waysAt", "(I)I"⟩ ∈ TB := tb_of 489 (by decide +kernel) (by decide +kernel)
theorem u_Ch_waysAt : (Cond.instanceMethod y_Ch_waysAt ∈ TB ∧ Cond.selects R_Ch y_Ch_waysAt y_Ch_waysAt ∈ TB) ∧ Cond.initialized R_Ch ∈ TB ∧ Cond.code y_Ch_waysAt b_Ch_waysAt 2 (some .int) ∈ TB := ⟨⟨(tb_of 491 (by decide +kernel) (by decide +kernel)), (tb_of 15 (by decide +kernel) (by decide +kernel))⟩, (tb_of 64 (by decide +kernel) (by decide +kernel)), k_Ch_waysAt⟩
abbrev rm_Ch_waysOf : Room := { frames := 1, cells := 0, slots := 0, locals := 22 }
def f_Ch_waysOf_0 (s_self : Nat → Nat → Int32) (v1 v2 v3 : Int32) : Option ((Int32)) :=
  bd1 (m_Ch_cellOf v1 v2 v3) fun r_1 =>
  bd1 (m_Ch_waysAt s_self r_1) fun r_3 =>
  some (r_3)
set_option maxHeartbeats 4000000 in
set_option maxRecDepth 100000 in
theorem t_Ch_waysOf_0 {p : Program} {l : Launch} {e : Env} {s : State} {m : MethodId} {args : Array Value} {below : List Frame} {meth : Method} {c : Code} {A : Nat → Prop} {D : va_G} {K : Nat → ClassId} (a_self a_grammar a_table : Nat → Nat) (X : gx p s m args c b_Ch_waysOf 4 R_Ch w_Ch_waysOf D classes (tyK K) A) (hr : meth.sig.returnType = some .int) (hlk : meth.locks = false) (r : Int32) (s_self : Nat → Nat → Int32) (v1 v2 v3 : Int32) (h : f_Ch_waysOf_0 s_self v1 v2 v3 = some r) : Gd p l e rm_Ch_waysOf s m args below meth c 0 0 (MQ below (sq D classes (tyK K) (some (.int r)) [wd_Ch K a_self (a_grammar 0) (a_table 0) s_self] A) args s 0 0 A) D classes A 4 0 [wd_Ch K a_self (a_grammar 0) (a_table 0) s_self] [(0, .ref (a_self 0)), (1, .int v1), (2, .int v2), (3, .int v3)] [] := by
  unfold f_Ch_waysOf_0 at h
  refine gd_aload_n X d_Ch_waysOf_0 0 rfl ?_
  refine gd_iload_n X d_Ch_waysOf_1 1 rfl ?_
  refine gd_iload_n X d_Ch_waysOf_2 2 rfl ?_
  refine gd_iload_n X d_Ch_waysOf_3 3 rfl ?_
  obtain ⟨r_1, hc_2, h⟩ := bd1_e h
  refine gd_pI X (gd_Sc X (As := [.int v1, .int v2, .int v3]) (rest := [.ref (a_self 0)]) (c_Ch_cellOf l D K v1 v2 v3 r_1 hc_2) 3 (gi_S ml_Ch_44 u_Ch_cellOf) rfl ⟨rfl, rfl⟩ (by decide +kernel) ⟨by decide, by decide⟩ rfl rfl (Nat.le_of_ble_eq_true rfl) ⟨Nat.zero_le _, Nat.zero_le _⟩ d_Ch_waysOf_4) [] rfl rfl ?_
  obtain ⟨r_3, hc_4, h⟩ := bd1_e h
  refine gd_fI X (gd_V X (As := [.int r_1]) (rest := []) (c_Ch_waysAt l D K a_self a_grammar a_table s_self r_1 r_3 hc_4) 1 (gi_V ml_Ch_48 u_Ch_waysAt) rfl ⟨rfl, rfl⟩ (by decide +kernel) ⟨by decide, by decide⟩ (ci := 3) rfl rfl rfl rfl rfl rfl (Nat.le_of_ble_eq_true rfl) ⟨Nat.zero_le _, Nat.zero_le _⟩ d_Ch_waysOf_7) ?_
  cases h
  exact gd_iret X hr hlk d_Ch_waysOf_10
def m_Ch_waysOf (s_self : Nat → Nat → Int32) (v1 v2 v3 : Int32) : Option ((Int32)) := f_Ch_waysOf_0 s_self v1 v2 v3
set_option maxHeartbeats 4000000 in
set_option maxRecDepth 100000 in
theorem c_Ch_waysOf (l : Launch) (D : va_G) (K : Nat → ClassId) (a_self a_grammar a_table : Nat → Nat) (s_self : Nat → Nat → Int32) (v1 v2 v3 : Int32) (r : Int32) (h : m_Ch_waysOf s_self v1 v2 v3 = some r) : SMet l y_Ch_waysOf w_Ch_waysOf rm_Ch_waysOf D classes (tyK K) [.ref (a_self 0), .int v1, .int v2, .int v3] (some (.int r)) [wd_Ch K a_self (a_grammar 0) (a_table 0) s_self] [wd_Ch K a_self (a_grammar 0) (a_table 0) s_self] := by
  refine sm_of R_Ch (by decide) rfl rfl (Nat.le_of_ble_eq_true rfl) ?_
  intro p e s m below meth c A X hr hlk
  refine gd_loc (lv' := [(0, .ref (a_self 0)), (1, .int v1), (2, .int v2), (3, .int v3)]) [0, 1, 2, 3] rfl ?_
  exact t_Ch_waysOf_0 a_self a_grammar a_table X hr hlk r s_self v1 v2 v3 h
abbrev b_Ch_sizeOf : ByteArray := prog_2_method_3_code
def y_Ch_sizeOf : MethodName := ⟨R_Ch, "sizeOf", "(III)I"⟩
def w_Ch_sizeOf : List Cond := .code y_Ch_sizeOf b_Ch_sizeOf 4 (some .int) :: TB
theorem k_Ch_sizeOf : Cond.code y_Ch_sizeOf b_Ch_sizeOf 4 (some .int) ∈ TB := tb_of 563 (by decide +kernel) (by decide +kernel)
theorem d_Ch_sizeOf_0 : decode b_Ch_sizeOf 0 = .ok (.aload_n 0, 1) := by decide +kernel
theorem d_Ch_sizeOf_1 : decode b_Ch_sizeOf 1 = .ok (.getfield 18, 3) := by decide +kernel
theorem d_Ch_sizeOf_4 : decode b_Ch_sizeOf 4 = .ok (.iload_n 1, 1) := by decide +kernel
theorem d_Ch_sizeOf_5 : decode b_Ch_sizeOf 5 = .ok (.iconst 0, 1) := by decide +kernel
theorem d_Ch_sizeOf_6 : decode b_Ch_sizeOf 6 = .ok (.iload_n 3, 1) := by decide +kernel
theorem d_Ch_sizeOf_7 : decode b_Ch_sizeOf 7 = .ok (.invokestatic 44, 3) := by decide +kernel
theorem d_Ch_sizeOf_10 : decode b_Ch_sizeOf 10 = .ok (.iload_n 2, 1) := by decide +kernel
theorem d_Ch_sizeOf_11 : decode b_Ch_sizeOf 11 = .ok (.invokestatic 52, 3) := by decide +kernel
theorem d_Ch_sizeOf_14 : decode b_Ch_sizeOf 14 = .ok (.invokevirtual 56, 3) := by decide +kernel
theorem d_Ch_sizeOf_17 : decode b_Ch_sizeOf 17 = .ok (.ireturn, 1) := by decide +kernel
theorem fl_Ch_18 : Cond.fieldLink R_Ch 18 "RuleTrees$Chart" "table" "LRuleTrees$TreeTable;" ∈ TB := tb_of 161 (by decide +kernel) (by decide +kernel)
theorem ml_Ch_52 : Cond.methodLink R_Ch 52 ⟨"RuleTrees$TreeTable", "treeOf", "(II)I"⟩ ∈ TB := tb_of 501 (by decide +kernel) (by decide +kernel)
theorem ml_Ch_56 : Cond.methodLink R_Ch 56 ⟨"RuleTrees$TreeTable", "sizeAt", "(I)I"⟩ ∈ TB := tb_of 511 (by decide +kernel) (by decide +kernel)
abbrev rm_Ch_sizeOf : Room := { frames := 1, cells := 0, slots := 0, locals := 22 }
def f_Ch_sizeOf_0 (s_self s_table : Nat → Nat → Int32) (v1 v2 v3 : Int32) : Option ((Int32)) :=
  bd1 (m_Ch_cellOf v1 0 v3) fun r_1 =>
  bd1 (m_Tt_treeOf r_1 v2) fun r_3 =>
  bd1 (m_Tt_sizeAt s_table r_3) fun r_5 =>
  some (r_5)
set_option maxHeartbeats 4000000 in
set_option maxRecDepth 100000 in
theorem t_Ch_sizeOf_0 {p : Program} {l : Launch} {e : Env} {s : State} {m : MethodId} {args : Array Value} {below : List Frame} {meth : Method} {c : Code} {A : Nat → Prop} {D : va_G} {K : Nat → ClassId} (a_self a_grammar a_table : Nat → Nat) (X : gx p s m args c b_Ch_sizeOf 4 R_Ch w_Ch_sizeOf D classes (tyK K) A) (hr : meth.sig.returnType = some .int) (hlk : meth.locks = false) (r : Int32) (s_self s_table : Nat → Nat → Int32) (v1 v2 v3 : Int32) (h : f_Ch_sizeOf_0 s_self s_table v1 v2 v3 = some r) : Gd p l e rm_Ch_sizeOf s m args below meth c 0 0 (MQ below (sq D classes (tyK K) (some (.int r)) [wd_Ch K a_self (a_grammar 0) (a_table 0) s_self, wd_Tt K a_table s_table] A) args s 0 0 A) D classes A 4 0 [wd_Ch K a_self (a_grammar 0) (a_table 0) s_self, wd_Tt K a_table s_table] [(0, .ref (a_self 0)), (1, .int v1), (2, .int v2), (3, .int v3)] [] := by
  unfold f_Ch_sizeOf_0 at h
  refine gd_aload_n X d_Ch_sizeOf_0 0 rfl ?_
  refine gd_get X (ci := 3) (C := R_Ch) (T := F_Ch) (N := 12) (v := .ref (a_table 0)) 0 0 rfl rfl rfl (in_Ch _) 1 (by decide) (List.mem_cons_of_mem _ fl_Ch_18) rfl rfl d_Ch_sizeOf_1 ?_
  refine gd_iload_n X d_Ch_sizeOf_4 1 rfl ?_
  refine gd_iconst X (v := 0) d_Ch_sizeOf_5 (by decide) ?_
  refine gd_iload_n X d_Ch_sizeOf_6 3 rfl ?_
  obtain ⟨r_1, hc_2, h⟩ := bd1_e h
  refine gd_pI X (gd_Sc X (As := [.int v1, .int 0, .int v3]) (rest := [.ref (a_table 0)]) (c_Ch_cellOf l D K v1 0 v3 r_1 hc_2) 3 (gi_S ml_Ch_44 u_Ch_cellOf) rfl ⟨rfl, rfl⟩ (by decide +kernel) ⟨by decide, by decide⟩ rfl rfl (Nat.le_of_ble_eq_true rfl) ⟨Nat.zero_le _, Nat.zero_le _⟩ d_Ch_sizeOf_7) [] rfl rfl ?_
  refine gd_iload_n X d_Ch_sizeOf_10 2 rfl ?_
  obtain ⟨r_3, hc_4, h⟩ := bd1_e h
  refine gd_pI X (gd_Sc X (As := [.int r_1, .int v2]) (rest := [.ref (a_table 0)]) (c_Tt_treeOf l D K r_1 v2 r_3 hc_4) 2 (gi_S ml_Ch_52 u_Tt_treeOf) rfl ⟨rfl, rfl⟩ (by decide +kernel) ⟨by decide, by decide⟩ rfl rfl (Nat.le_of_ble_eq_true rfl) ⟨Nat.zero_le _, Nat.zero_le _⟩ d_Ch_sizeOf_11) [] rfl rfl ?_
  obtain ⟨r_5, hc_6, h⟩ := bd1_e h
  refine gd_pI X (gd_V X (As := [.int r_3]) (rest := []) (c_Tt_sizeAt l D K a_table s_table r_3 r_5 hc_6) 1 (gi_V ml_Ch_56 u_Tt_sizeAt) rfl ⟨rfl, rfl⟩ (by decide +kernel) ⟨by decide, by decide⟩ (ci := 2) rfl rfl rfl rfl rfl rfl (Nat.le_of_ble_eq_true rfl) ⟨Nat.zero_le _, Nat.zero_le _⟩ d_Ch_sizeOf_14) [1] rfl rfl ?_
  cases h
  exact gd_iret X hr hlk d_Ch_sizeOf_17
def m_Ch_sizeOf (s_self s_table : Nat → Nat → Int32) (v1 v2 v3 : Int32) : Option ((Int32)) := f_Ch_sizeOf_0 s_self s_table v1 v2 v3
set_option maxHeartbeats 4000000 in
set_option maxRecDepth 100000 in
theorem c_Ch_sizeOf (l : Launch) (D : va_G) (K : Nat → ClassId) (a_self a_grammar a_table : Nat → Nat) (s_self s_table : Nat → Nat → Int32) (v1 v2 v3 : Int32) (r : Int32) (h : m_Ch_sizeOf s_self s_table v1 v2 v3 = some r) : SMet l y_Ch_sizeOf w_Ch_sizeOf rm_Ch_sizeOf D classes (tyK K) [.ref (a_self 0), .int v1, .int v2, .int v3] (some (.int r)) [wd_Ch K a_self (a_grammar 0) (a_table 0) s_self, wd_Tt K a_table s_table] [wd_Ch K a_self (a_grammar 0) (a_table 0) s_self, wd_Tt K a_table s_table] := by
  refine sm_of R_Ch (by decide) rfl rfl (Nat.le_of_ble_eq_true rfl) ?_
  intro p e s m below meth c A X hr hlk
  refine gd_loc (lv' := [(0, .ref (a_self 0)), (1, .int v1), (2, .int v2), (3, .int v3)]) [0, 1, 2, 3] rfl ?_
  exact t_Ch_sizeOf_0 a_self a_grammar a_table X hr hlk r s_self s_table v1 v2 v3 h
abbrev b_Ch_spell : ByteArray := prog_2_method_4_code
def y_Ch_spell : MethodName := ⟨R_Ch, "spell", "(IIILRuleTrees$Symbols;)V"⟩
def w_Ch_spell : List Cond := .code y_Ch_spell b_Ch_spell 5 none :: TB
theorem k_Ch_spell : Cond.code y_Ch_spell b_Ch_spell 5 none ∈ TB := tb_of 571 (by decide +kernel) (by decide +kernel)
theorem d_Ch_spell_0 : decode b_Ch_spell 0 = .ok (.aload_n 0, 1) := by decide +kernel
theorem d_Ch_spell_1 : decode b_Ch_spell 1 = .ok (.getfield 18, 3) := by decide +kernel
theorem d_Ch_spell_4 : decode b_Ch_spell 4 = .ok (.iload_n 1, 1) := by decide +kernel
theorem d_Ch_spell_5 : decode b_Ch_spell 5 = .ok (.iconst 0, 1) := by decide +kernel
theorem d_Ch_spell_6 : decode b_Ch_spell 6 = .ok (.iload_n 3, 1) := by decide +kernel
theorem d_Ch_spell_7 : decode b_Ch_spell 7 = .ok (.invokestatic 44, 3) := by decide +kernel
theorem d_Ch_spell_10 : decode b_Ch_spell 10 = .ok (.iload_n 2, 1) := by decide +kernel
theorem d_Ch_spell_11 : decode b_Ch_spell 11 = .ok (.invokestatic 52, 3) := by decide +kernel
theorem d_Ch_spell_14 : decode b_Ch_spell 14 = .ok (.aload 4, 2) := by decide +kernel
theorem d_Ch_spell_16 : decode b_Ch_spell 16 = .ok (.invokevirtual 59, 3) := by decide +kernel
theorem d_Ch_spell_19 : decode b_Ch_spell 19 = .ok (.return_, 1) := by decide +kernel
theorem ml_Ch_59 : Cond.methodLink R_Ch 59 ⟨"RuleTrees$TreeTable", "spellTree", "(ILRuleTrees$Symbols;)V"⟩ ∈ TB := tb_of 572 (by decide +kernel) (by decide +kernel)
theorem u_Tt_spellTree : (Cond.instanceMethod y_Tt_spellTree ∈ TB ∧ Cond.selects R_Tt y_Tt_spellTree y_Tt_spellTree ∈ TB) ∧ Cond.initialized R_Tt ∈ TB ∧ Cond.code y_Tt_spellTree b_Tt_spellTree 6 none ∈ TB := ⟨⟨(tb_of 573 (by decide +kernel) (by decide +kernel)), (tb_of 574 (by decide +kernel) (by decide +kernel))⟩, (tb_of 65 (by decide +kernel) (by decide +kernel)), k_Tt_spellTree⟩
abbrev rm_Ch_spell : Room := { frames := 2, cells := 0, slots := 0, locals := 50 }
def f_Ch_spell_0 (N : Nat) (n_p3 : Nat) (s_self s_table s_p3 : Nat → Nat → Int32) (v1 v2 v3 : Int32) : Option ((Nat → Nat → Int32) × (Nat → Nat → Int32)) :=
  bd1 (m_Ch_cellOf v1 0 v3) fun r_1 =>
  bd1 (m_Tt_treeOf r_1 v2) fun r_3 =>
  bd2 (m_Tt_spellTree N n_p3 s_table s_p3 r_3) fun s_table_5 s_p3_6 =>
  some (s_table_5, s_p3_6)
set_option maxHeartbeats 4000000 in
set_option maxRecDepth 100000 in
theorem t_Ch_spell_0 {p : Program} {l : Launch} {e : Env} {s : State} {m : MethodId} {args : Array Value} {below : List Frame} {meth : Method} {c : Code} {A : Nat → Prop} {D : va_G} {K : Nat → ClassId} (a_self a_grammar a_table a_p3 : Nat → Nat) (n_p3 : Nat) (X : gx p s m args c b_Ch_spell 5 R_Ch w_Ch_spell D classes (tyK K) A) (hr : meth.sig.returnType = none) (hlk : meth.locks = false) (N : Nat) (f_table f_p3 : Nat → Nat → Int32) (s_self s_table s_p3 : Nat → Nat → Int32) (v1 v2 v3 : Int32) (h : f_Ch_spell_0 N n_p3 s_self s_table s_p3 v1 v2 v3 = some (f_table, f_p3)) : Gd p l e rm_Ch_spell s m args below meth c 0 0 (MQ below (sq D classes (tyK K) none [wd_Ch K a_self (a_grammar 0) (a_table 0) s_self, wd_Tt K a_table f_table, wd_Sy K a_p3 n_p3 f_p3] A) args s 0 0 A) D classes A 5 0 [wd_Ch K a_self (a_grammar 0) (a_table 0) s_self, wd_Tt K a_table s_table, wd_Sy K a_p3 n_p3 s_p3] [(0, .ref (a_self 0)), (1, .int v1), (2, .int v2), (3, .int v3), (4, .ref (a_p3 0))] [] := by
  unfold f_Ch_spell_0 at h
  refine gd_aload_n X d_Ch_spell_0 0 rfl ?_
  refine gd_get X (ci := 3) (C := R_Ch) (T := F_Ch) (N := 12) (v := .ref (a_table 0)) 0 0 rfl rfl rfl (in_Ch _) 1 (by decide) (List.mem_cons_of_mem _ fl_Ch_18) rfl rfl d_Ch_spell_1 ?_
  refine gd_iload_n X d_Ch_spell_4 1 rfl ?_
  refine gd_iconst X (v := 0) d_Ch_spell_5 (by decide) ?_
  refine gd_iload_n X d_Ch_spell_6 3 rfl ?_
  obtain ⟨r_1, hc_2, h⟩ := bd1_e h
  refine gd_pI X (gd_Sc X (As := [.int v1, .int 0, .int v3]) (rest := [.ref (a_table 0)]) (c_Ch_cellOf l D K v1 0 v3 r_1 hc_2) 3 (gi_S ml_Ch_44 u_Ch_cellOf) rfl ⟨rfl, rfl⟩ (by decide +kernel) ⟨by decide, by decide⟩ rfl rfl (Nat.le_of_ble_eq_true rfl) ⟨Nat.zero_le _, Nat.zero_le _⟩ d_Ch_spell_7) [] rfl rfl ?_
  refine gd_iload_n X d_Ch_spell_10 2 rfl ?_
  obtain ⟨r_3, hc_4, h⟩ := bd1_e h
  refine gd_pI X (gd_Sc X (As := [.int r_1, .int v2]) (rest := [.ref (a_table 0)]) (c_Tt_treeOf l D K r_1 v2 r_3 hc_4) 2 (gi_S ml_Ch_52 u_Tt_treeOf) rfl ⟨rfl, rfl⟩ (by decide +kernel) ⟨by decide, by decide⟩ rfl rfl (Nat.le_of_ble_eq_true rfl) ⟨Nat.zero_le _, Nat.zero_le _⟩ d_Ch_spell_11) [] rfl rfl ?_
  refine gd_aload X d_Ch_spell_14 4 rfl ?_
  obtain ⟨s_table_5, s_p3_6, hc_7, h⟩ := bd2_e h
  refine gd_cv X (gd_V X (As := [.int r_3, .ref (a_p3 0)]) (rest := []) (c_Tt_spellTree l D K a_table a_p3 n_p3 N s_table s_p3 r_3 s_table_5 s_p3_6 hc_7) 2 (gi_V ml_Ch_59 u_Tt_spellTree) rfl ⟨rfl, rfl⟩ (by decide +kernel) ⟨by decide, by decide⟩ (ci := 2) rfl rfl rfl rfl rfl rfl (Nat.le_of_ble_eq_true rfl) ⟨Nat.zero_le _, Nat.zero_le _⟩ d_Ch_spell_16) (w2 := [wd_Ch K a_self (a_grammar 0) (a_table 0) s_self, wd_Tt K a_table s_table_5, wd_Sy K a_p3 n_p3 s_p3_6]) [1, 2] [0] rfl rfl rfl rfl ⟨rfl, rfl⟩ rfl ?_
  cases h
  exact gd_vret X hr hlk d_Ch_spell_19
def m_Ch_spell (N : Nat) (n_p3 : Nat) (s_self s_table s_p3 : Nat → Nat → Int32) (v1 v2 v3 : Int32) : Option ((Nat → Nat → Int32) × (Nat → Nat → Int32)) := f_Ch_spell_0 N n_p3 s_self s_table s_p3 v1 v2 v3
set_option maxHeartbeats 4000000 in
set_option maxRecDepth 100000 in
theorem c_Ch_spell (l : Launch) (D : va_G) (K : Nat → ClassId) (a_self a_grammar a_table a_p3 : Nat → Nat) (n_p3 : Nat) (N : Nat) (s_self s_table s_p3 : Nat → Nat → Int32) (v1 v2 v3 : Int32) (f_table f_p3 : Nat → Nat → Int32) (h : m_Ch_spell N n_p3 s_self s_table s_p3 v1 v2 v3 = some (f_table, f_p3)) : SMet l y_Ch_spell w_Ch_spell rm_Ch_spell D classes (tyK K) [.ref (a_self 0), .int v1, .int v2, .int v3, .ref (a_p3 0)] none [wd_Ch K a_self (a_grammar 0) (a_table 0) s_self, wd_Tt K a_table s_table, wd_Sy K a_p3 n_p3 s_p3] [wd_Ch K a_self (a_grammar 0) (a_table 0) s_self, wd_Tt K a_table f_table, wd_Sy K a_p3 n_p3 f_p3] := by
  refine sm_of R_Ch (by decide) rfl rfl (Nat.le_of_ble_eq_true rfl) ?_
  intro p e s m below meth c A X hr hlk
  refine gd_loc (lv' := [(0, .ref (a_self 0)), (1, .int v1), (2, .int v2), (3, .int v3), (4, .ref (a_p3 0))]) [0, 1, 2, 3, 4] rfl ?_
  exact t_Ch_spell_0 a_self a_grammar a_table a_p3 n_p3 X hr hlk N f_table f_p3 s_self s_table s_p3 v1 v2 v3 h
abbrev b_Ch_setWays : ByteArray := prog_2_method_8_code
def y_Ch_setWays : MethodName := ⟨R_Ch, "setWays", "(II)V"⟩
def w_Ch_setWays : List Cond := .code y_Ch_setWays b_Ch_setWays 3 none :: TB
theorem k_Ch_setWays : Cond.code y_Ch_setWays b_Ch_setWays 3 none ∈ TB := tb_of 425 (by decide +kernel) (by decide +kernel)
theorem d_Ch_setWays_0 : decode b_Ch_setWays 0 = .ok (.iload_n 1, 1) := by decide +kernel
theorem d_Ch_setWays_1 : decode b_Ch_setWays 1 = .ok (.ifCond .lt 17, 3) := by decide +kernel
theorem d_Ch_setWays_4 : decode b_Ch_setWays 4 = .ok (.iload_n 1, 1) := by decide +kernel
theorem d_Ch_setWays_5 : decode b_Ch_setWays 5 = .ok (.sipush 468, 3) := by decide +kernel
theorem d_Ch_setWays_8 : decode b_Ch_setWays 8 = .ok (.if_icmp .ge 10, 3) := by decide +kernel
theorem d_Ch_setWays_11 : decode b_Ch_setWays 11 = .ok (.aload_n 0, 1) := by decide +kernel
theorem d_Ch_setWays_12 : decode b_Ch_setWays 12 = .ok (.getfield 22, 3) := by decide +kernel
theorem d_Ch_setWays_15 : decode b_Ch_setWays 15 = .ok (.iload_n 1, 1) := by decide +kernel
theorem d_Ch_setWays_16 : decode b_Ch_setWays 16 = .ok (.iload_n 2, 1) := by decide +kernel
theorem d_Ch_setWays_17 : decode b_Ch_setWays 17 = .ok (.iastore, 1) := by decide +kernel
theorem d_Ch_setWays_18 : decode b_Ch_setWays 18 = .ok (.return_, 1) := by decide +kernel
abbrev rm_Ch_setWays : Room := { frames := 0, cells := 0, slots := 0, locals := 0 }
def f_Ch_setWays_0 (s_self : Nat → Nat → Int32) (v1 v2 : Int32) : Option ((Nat → Nat → Int32)) :=
  if v1 < 0 then
    some s_self
  else
    if 468 ≤ v1 then
      some s_self
    else
      ck v1 468 <| nm (st2 s_self 1 (Int32.toNatClampNeg v1) v2) fun s_self_4 =>
      some s_self_4
set_option maxHeartbeats 4000000 in
set_option maxRecDepth 100000 in
theorem t_Ch_setWays_0 {p : Program} {l : Launch} {e : Env} {s : State} {m : MethodId} {args : Array Value} {below : List Frame} {meth : Method} {c : Code} {A : Nat → Prop} {D : va_G} {K : Nat → ClassId} (a_self a_grammar a_table : Nat → Nat) (X : gx p s m args c b_Ch_setWays 3 R_Ch w_Ch_setWays D classes (tyK K) A) (hr : meth.sig.returnType = none) (hlk : meth.locks = false) (f_self : Nat → Nat → Int32) (s_self : Nat → Nat → Int32) (v1 v2 : Int32) (h : f_Ch_setWays_0 s_self v1 v2 = some f_self) : Gd p l e rm_Ch_setWays s m args below meth c 0 0 (MQ below (sq D classes (tyK K) none [wd_Ch K a_self (a_grammar 0) (a_table 0) f_self] A) args s 0 0 A) D classes A 3 0 [wd_Ch K a_self (a_grammar 0) (a_table 0) s_self] [(0, .ref (a_self 0)), (1, .int v1), (2, .int v2)] [] := by
  unfold f_Ch_setWays_0 at h
  refine gd_iload_n X d_Ch_setWays_0 1 rfl ?_
  refine gd_if_lt X (tgt := 18) d_Ch_setWays_1 (by decide) (fun c_1 => ?_) (fun c_1 => ?_)
  · replace h := it_p c_1 h
    cases h
    exact gd_vret X hr hlk d_Ch_setWays_18
  · replace h := it_n c_1 h
    refine gd_iload_n X d_Ch_setWays_4 1 rfl ?_
    refine gd_sipush X (v := 468) d_Ch_setWays_5 (by decide) ?_
    refine gd_icmp_ge X (tgt := 18) d_Ch_setWays_8 (by decide) (fun c_2 => ?_) (fun c_2 => ?_)
    · replace h := it_p c_2 h
      cases h
      exact gd_vret X hr hlk d_Ch_setWays_18
    · replace h := it_n c_2 h
      refine gd_aload_n X d_Ch_setWays_11 0 rfl ?_
      refine gd_get X (ci := 3) (C := R_Ch) (T := F_Ch) (N := 12) (v := .ref (a_self 1)) 0 0 rfl rfl rfl (in_Ch _) 2 (by decide) (List.mem_cons_of_mem _ fl_Ch_22) rfl rfl d_Ch_setWays_12 ?_
      refine gd_iload_n X d_Ch_setWays_15 1 rfl ?_
      refine gd_iload_n X d_Ch_setWays_16 2 rfl ?_
      obtain ⟨hi_3, h⟩ := ck_e h
      obtain ⟨s_self_4, es_self_4, h⟩ := nm_e' h
      refine gd_iast X (w' := [wd_Ch K a_self (a_grammar 0) (a_table 0) s_self_4]) 0 1 0 rfl rfl rfl hi_3 d_Ch_setWays_17 (by rw [es_self_4]; rfl) ?_
      cases h
      exact gd_vret X hr hlk d_Ch_setWays_18
def m_Ch_setWays (s_self : Nat → Nat → Int32) (v1 v2 : Int32) : Option ((Nat → Nat → Int32)) := f_Ch_setWays_0 s_self v1 v2
set_option maxHeartbeats 4000000 in
set_option maxRecDepth 100000 in
theorem c_Ch_setWays (l : Launch) (D : va_G) (K : Nat → ClassId) (a_self a_grammar a_table : Nat → Nat) (s_self : Nat → Nat → Int32) (v1 v2 : Int32) (f_self : Nat → Nat → Int32) (h : m_Ch_setWays s_self v1 v2 = some f_self) : SMet l y_Ch_setWays w_Ch_setWays rm_Ch_setWays D classes (tyK K) [.ref (a_self 0), .int v1, .int v2] none [wd_Ch K a_self (a_grammar 0) (a_table 0) s_self] [wd_Ch K a_self (a_grammar 0) (a_table 0) f_self] := by
  refine sm_of R_Ch (by decide) rfl rfl (Nat.le_of_ble_eq_true rfl) ?_
  intro p e s m below meth c A X hr hlk
  refine gd_loc (lv' := [(0, .ref (a_self 0)), (1, .int v1), (2, .int v2)]) [0, 1, 2] rfl ?_
  exact t_Ch_setWays_0 a_self a_grammar a_table X hr hlk f_self s_self v1 v2 h
abbrev b_Ch_symbolIn : ByteArray := prog_2_method_9_code
def y_Ch_symbolIn : MethodName := ⟨R_Ch, "symbolIn", "(I)I"⟩
def w_Ch_symbolIn : List Cond := .code y_Ch_symbolIn b_Ch_symbolIn 2 (some .int) :: TB
theorem k_Ch_symbolIn : Cond.code y_Ch_symbolIn b_Ch_symbolIn 2 (some .int) ∈ TB := tb_of 443 (by decide +kernel) (by decide +kernel)
theorem d_Ch_symbolIn_0 : decode b_Ch_symbolIn 0 = .ok (.iload_n 1, 1) := by decide +kernel
theorem d_Ch_symbolIn_1 : decode b_Ch_symbolIn 1 = .ok (.ifCond .lt 18, 3) := by decide +kernel
theorem d_Ch_symbolIn_4 : decode b_Ch_symbolIn 4 = .ok (.iload_n 1, 1) := by decide +kernel
theorem d_Ch_symbolIn_5 : decode b_Ch_symbolIn 5 = .ok (.bipush 12, 2) := by decide +kernel
theorem d_Ch_symbolIn_7 : decode b_Ch_symbolIn 7 = .ok (.if_icmp .ge 12, 3) := by decide +kernel
theorem d_Ch_symbolIn_10 : decode b_Ch_symbolIn 10 = .ok (.aload_n 0, 1) := by decide +kernel
theorem d_Ch_symbolIn_11 : decode b_Ch_symbolIn 11 = .ok (.getfield 26, 3) := by decide +kernel
theorem d_Ch_symbolIn_14 : decode b_Ch_symbolIn 14 = .ok (.iload_n 1, 1) := by decide +kernel
theorem d_Ch_symbolIn_15 : decode b_Ch_symbolIn 15 = .ok (.iaload, 1) := by decide +kernel
theorem d_Ch_symbolIn_16 : decode b_Ch_symbolIn 16 = .ok (.goto 6, 3) := by decide +kernel
theorem d_Ch_symbolIn_19 : decode b_Ch_symbolIn 19 = .ok (.sipush (-1000), 3) := by decide +kernel
theorem d_Ch_symbolIn_22 : decode b_Ch_symbolIn 22 = .ok (.ireturn, 1) := by decide +kernel
theorem fl_Ch_26 : Cond.fieldLink R_Ch 26 "RuleTrees$Chart" "symbols" "[I" ∈ TB := tb_of 163 (by decide +kernel) (by decide +kernel)
abbrev rm_Ch_symbolIn : Room := { frames := 0, cells := 0, slots := 0, locals := 0 }
def f_Ch_symbolIn_0 (s_self : Nat → Nat → Int32) (v1 : Int32) : Option ((Int32)) :=
  if v1 < 0 then
    some ((-1000))
  else
    if 12 ≤ v1 then
      some ((-1000))
    else
      ck v1 12 <|
      some (s_self 2 (Int32.toNatClampNeg v1))
set_option maxHeartbeats 4000000 in
set_option maxRecDepth 100000 in
theorem t_Ch_symbolIn_0 {p : Program} {l : Launch} {e : Env} {s : State} {m : MethodId} {args : Array Value} {below : List Frame} {meth : Method} {c : Code} {A : Nat → Prop} {D : va_G} {K : Nat → ClassId} (a_self a_grammar a_table : Nat → Nat) (X : gx p s m args c b_Ch_symbolIn 2 R_Ch w_Ch_symbolIn D classes (tyK K) A) (hr : meth.sig.returnType = some .int) (hlk : meth.locks = false) (r : Int32) (s_self : Nat → Nat → Int32) (v1 : Int32) (h : f_Ch_symbolIn_0 s_self v1 = some r) : Gd p l e rm_Ch_symbolIn s m args below meth c 0 0 (MQ below (sq D classes (tyK K) (some (.int r)) [wd_Ch K a_self (a_grammar 0) (a_table 0) s_self] A) args s 0 0 A) D classes A 2 0 [wd_Ch K a_self (a_grammar 0) (a_table 0) s_self] [(0, .ref (a_self 0)), (1, .int v1)] [] := by
  unfold f_Ch_symbolIn_0 at h
  refine gd_iload_n X d_Ch_symbolIn_0 1 rfl ?_
  refine gd_if_lt X (tgt := 19) d_Ch_symbolIn_1 (by decide) (fun c_1 => ?_) (fun c_1 => ?_)
  · replace h := it_p c_1 h
    refine gd_sipush X (v := (-1000)) d_Ch_symbolIn_19 (by decide) ?_
    cases h
    exact gd_iret X hr hlk d_Ch_symbolIn_22
  · replace h := it_n c_1 h
    refine gd_iload_n X d_Ch_symbolIn_4 1 rfl ?_
    refine gd_bipush X (v := 12) d_Ch_symbolIn_5 (by decide) ?_
    refine gd_icmp_ge X (tgt := 19) d_Ch_symbolIn_7 (by decide) (fun c_2 => ?_) (fun c_2 => ?_)
    · replace h := it_p c_2 h
      refine gd_sipush X (v := (-1000)) d_Ch_symbolIn_19 (by decide) ?_
      cases h
      exact gd_iret X hr hlk d_Ch_symbolIn_22
    · replace h := it_n c_2 h
      refine gd_aload_n X d_Ch_symbolIn_10 0 rfl ?_
      refine gd_get X (ci := 3) (C := R_Ch) (T := F_Ch) (N := 12) (v := .ref (a_self 2)) 0 0 rfl rfl rfl (in_Ch _) 3 (by decide) (List.mem_cons_of_mem _ fl_Ch_26) rfl rfl d_Ch_symbolIn_11 ?_
      refine gd_iload_n X d_Ch_symbolIn_14 1 rfl ?_
      obtain ⟨hi_3, h⟩ := ck_e h
      refine gd_iald X 0 2 0 rfl rfl rfl hi_3 d_Ch_symbolIn_15 ?_
      refine gd_goto X (tgt := 22) d_Ch_symbolIn_16 (by decide) ?_
      cases h
      exact gd_iret X hr hlk d_Ch_symbolIn_22
def m_Ch_symbolIn (s_self : Nat → Nat → Int32) (v1 : Int32) : Option ((Int32)) := f_Ch_symbolIn_0 s_self v1
set_option maxHeartbeats 4000000 in
set_option maxRecDepth 100000 in
theorem c_Ch_symbolIn (l : Launch) (D : va_G) (K : Nat → ClassId) (a_self a_grammar a_table : Nat → Nat) (s_self : Nat → Nat → Int32) (v1 : Int32) (r : Int32) (h : m_Ch_symbolIn s_self v1 = some r) : SMet l y_Ch_symbolIn w_Ch_symbolIn rm_Ch_symbolIn D classes (tyK K) [.ref (a_self 0), .int v1] (some (.int r)) [wd_Ch K a_self (a_grammar 0) (a_table 0) s_self] [wd_Ch K a_self (a_grammar 0) (a_table 0) s_self] := by
  refine sm_of R_Ch (by decide) rfl rfl (Nat.le_of_ble_eq_true rfl) ?_
  intro p e s m below meth c A X hr hlk
  refine gd_loc (lv' := [(0, .ref (a_self 0)), (1, .int v1)]) [0, 1] rfl ?_
  exact t_Ch_symbolIn_0 a_self a_grammar a_table X hr hlk r s_self v1 h
abbrev b_Ch_addLeaf : ByteArray := prog_2_method_14_code
def y_Ch_addLeaf : MethodName := ⟨R_Ch, "addLeaf", "(I)V"⟩
def w_Ch_addLeaf : List Cond := .code y_Ch_addLeaf b_Ch_addLeaf 4 none :: TB
theorem k_Ch_addLeaf : Cond.code y_Ch_addLeaf b_Ch_addLeaf 4 none ∈ TB := tb_of 439 (by decide +kernel) (by decide +kernel)
theorem d_Ch_addLeaf_0 : decode b_Ch_addLeaf 0 = .ok (.aload_n 0, 1) := by decide +kernel
theorem d_Ch_addLeaf_1 : decode b_Ch_addLeaf 1 = .ok (.iload_n 1, 1) := by decide +kernel
theorem d_Ch_addLeaf_2 : decode b_Ch_addLeaf 2 = .ok (.invokevirtual 133, 3) := by decide +kernel
theorem d_Ch_addLeaf_5 : decode b_Ch_addLeaf 5 = .ok (.istore_n 2, 1) := by decide +kernel
theorem d_Ch_addLeaf_6 : decode b_Ch_addLeaf 6 = .ok (.iload_n 2, 1) := by decide +kernel
theorem d_Ch_addLeaf_7 : decode b_Ch_addLeaf 7 = .ok (.ifCond .lt 4, 3) := by decide +kernel
theorem d_Ch_addLeaf_10 : decode b_Ch_addLeaf 10 = .ok (.return_, 1) := by decide +kernel
theorem d_Ch_addLeaf_11 : decode b_Ch_addLeaf 11 = .ok (.aload_n 0, 1) := by decide +kernel
theorem d_Ch_addLeaf_12 : decode b_Ch_addLeaf 12 = .ok (.getfield 9, 3) := by decide +kernel
theorem d_Ch_addLeaf_15 : decode b_Ch_addLeaf 15 = .ok (.iload_n 2, 1) := by decide +kernel
theorem d_Ch_addLeaf_16 : decode b_Ch_addLeaf 16 = .ok (.invokevirtual 97, 3) := by decide +kernel
theorem d_Ch_addLeaf_19 : decode b_Ch_addLeaf 19 = .ok (.iload_n 1, 1) := by decide +kernel
theorem d_Ch_addLeaf_20 : decode b_Ch_addLeaf 20 = .ok (.iload_n 1, 1) := by decide +kernel
theorem d_Ch_addLeaf_21 : decode b_Ch_addLeaf 21 = .ok (.iconst 1, 1) := by decide +kernel
theorem d_Ch_addLeaf_22 : decode b_Ch_addLeaf 22 = .ok (.iadd, 1) := by decide +kernel
theorem d_Ch_addLeaf_23 : decode b_Ch_addLeaf 23 = .ok (.invokestatic 44, 3) := by decide +kernel
theorem d_Ch_addLeaf_26 : decode b_Ch_addLeaf 26 = .ok (.istore_n 3, 1) := by decide +kernel
theorem d_Ch_addLeaf_27 : decode b_Ch_addLeaf 27 = .ok (.aload_n 0, 1) := by decide +kernel
theorem d_Ch_addLeaf_28 : decode b_Ch_addLeaf 28 = .ok (.iload_n 3, 1) := by decide +kernel
theorem d_Ch_addLeaf_29 : decode b_Ch_addLeaf 29 = .ok (.iconst 1, 1) := by decide +kernel
theorem d_Ch_addLeaf_30 : decode b_Ch_addLeaf 30 = .ok (.invokevirtual 110, 3) := by decide +kernel
theorem d_Ch_addLeaf_33 : decode b_Ch_addLeaf 33 = .ok (.aload_n 0, 1) := by decide +kernel
theorem d_Ch_addLeaf_34 : decode b_Ch_addLeaf 34 = .ok (.getfield 18, 3) := by decide +kernel
theorem d_Ch_addLeaf_37 : decode b_Ch_addLeaf 37 = .ok (.iload_n 2, 1) := by decide +kernel
theorem d_Ch_addLeaf_38 : decode b_Ch_addLeaf 38 = .ok (.iconst 0, 1) := by decide +kernel
theorem d_Ch_addLeaf_39 : decode b_Ch_addLeaf 39 = .ok (.invokevirtual 136, 3) := by decide +kernel
theorem d_Ch_addLeaf_42 : decode b_Ch_addLeaf 42 = .ok (.aload_n 0, 1) := by decide +kernel
theorem d_Ch_addLeaf_43 : decode b_Ch_addLeaf 43 = .ok (.getfield 18, 3) := by decide +kernel
theorem d_Ch_addLeaf_46 : decode b_Ch_addLeaf 46 = .ok (.iload_n 3, 1) := by decide +kernel
theorem d_Ch_addLeaf_47 : decode b_Ch_addLeaf 47 = .ok (.invokevirtual 139, 3) := by decide +kernel
theorem d_Ch_addLeaf_50 : decode b_Ch_addLeaf 50 = .ok (.return_, 1) := by decide +kernel
theorem ml_Ch_133 : Cond.methodLink R_Ch 133 ⟨"RuleTrees$Chart", "symbolIn", "(I)I"⟩ ∈ TB := tb_of 440 (by decide +kernel) (by decide +kernel)
theorem u_Ch_symbolIn : (Cond.instanceMethod y_Ch_symbolIn ∈ TB ∧ Cond.selects R_Ch y_Ch_symbolIn y_Ch_symbolIn ∈ TB) ∧ Cond.initialized R_Ch ∈ TB ∧ Cond.code y_Ch_symbolIn b_Ch_symbolIn 2 (some .int) ∈ TB := ⟨⟨(tb_of 442 (by decide +kernel) (by decide +kernel)), (tb_of 7 (by decide +kernel) (by decide +kernel))⟩, (tb_of 64 (by decide +kernel) (by decide +kernel)), k_Ch_symbolIn⟩
theorem fl_Ch_9 : Cond.fieldLink R_Ch 9 "RuleTrees$Chart" "grammar" "LRuleTrees$Grammar;" ∈ TB := tb_of 160 (by decide +kernel) (by decide +kernel)
theorem ml_Ch_97 : Cond.methodLink R_Ch 97 ⟨"RuleTrees$Grammar", "sortOfCode", "(I)I"⟩ ∈ TB := tb_of 391 (by decide +kernel) (by decide +kernel)
theorem u_Gr_sortOfCode : (Cond.instanceMethod y_Gr_sortOfCode ∈ TB ∧ Cond.selects R_Gr y_Gr_sortOfCode y_Gr_sortOfCode ∈ TB) ∧ Cond.initialized R_Gr ∈ TB ∧ Cond.code y_Gr_sortOfCode b_Gr_sortOfCode 2 (some .int) ∈ TB := ⟨⟨(tb_of 392 (by decide +kernel) (by decide +kernel)), (tb_of 393 (by decide +kernel) (by decide +kernel))⟩, (tb_of 63 (by decide +kernel) (by decide +kernel)), k_Gr_sortOfCode⟩
theorem ml_Ch_110 : Cond.methodLink R_Ch 110 ⟨"RuleTrees$Chart", "setWays", "(II)V"⟩ ∈ TB := tb_of 422 (by decide +kernel) (by decide +kernel)
theorem u_Ch_setWays : (Cond.instanceMethod y_Ch_setWays ∈ TB ∧ Cond.selects R_Ch y_Ch_setWays y_Ch_setWays ∈ TB) ∧ Cond.initialized R_Ch ∈ TB ∧ Cond.code y_Ch_setWays b_Ch_setWays 3 none ∈ TB := ⟨⟨(tb_of 424 (by decide +kernel) (by decide +kernel)), (tb_of 5 (by decide +kernel) (by decide +kernel))⟩, (tb_of 64 (by decide +kernel) (by decide +kernel)), k_Ch_setWays⟩
theorem ml_Ch_136 : Cond.methodLink R_Ch 136 ⟨"RuleTrees$TreeTable", "startDraft", "(II)V"⟩ ∈ TB := tb_of 444 (by decide +kernel) (by decide +kernel)
theorem u_Tt_startDraft : (Cond.instanceMethod y_Tt_startDraft ∈ TB ∧ Cond.selects R_Tt y_Tt_startDraft y_Tt_startDraft ∈ TB) ∧ Cond.initialized R_Tt ∈ TB ∧ Cond.code y_Tt_startDraft b_Tt_startDraft 3 none ∈ TB := ⟨⟨(tb_of 445 (by decide +kernel) (by decide +kernel)), (tb_of 446 (by decide +kernel) (by decide +kernel))⟩, (tb_of 65 (by decide +kernel) (by decide +kernel)), k_Tt_startDraft⟩
theorem ml_Ch_139 : Cond.methodLink R_Ch 139 ⟨"RuleTrees$TreeTable", "offerDraft", "(I)V"⟩ ∈ TB := tb_of 451 (by decide +kernel) (by decide +kernel)
theorem u_Tt_offerDraft : (Cond.instanceMethod y_Tt_offerDraft ∈ TB ∧ Cond.selects R_Tt y_Tt_offerDraft y_Tt_offerDraft ∈ TB) ∧ Cond.initialized R_Tt ∈ TB ∧ Cond.code y_Tt_offerDraft b_Tt_offerDraft 4 none ∈ TB := ⟨⟨(tb_of 452 (by decide +kernel) (by decide +kernel)), (tb_of 453 (by decide +kernel) (by decide +kernel))⟩, (tb_of 65 (by decide +kernel) (by decide +kernel)), k_Tt_offerDraft⟩
abbrev rm_Ch_addLeaf : Room := { frames := 3, cells := 0, slots := 0, locals := 74 }
def f_Ch_addLeaf_0 (N : Nat) (s_self s_grammar s_table : Nat → Nat → Int32) (v1 : Int32) : Option ((Nat → Nat → Int32) × (Nat → Nat → Int32)) :=
  bd1 (m_Ch_symbolIn s_self v1) fun r_1 =>
  if r_1 < 0 then
    bd1 (m_Gr_sortOfCode s_grammar r_1) fun r_4 =>
    bd1 (m_Ch_cellOf r_4 v1 (v1 + 1)) fun r_6 =>
    bd1 (m_Ch_setWays s_self r_6 1) fun s_self_8 =>
    bd1 (m_Tt_startDraft s_table r_1 0) fun s_table_10 =>
    bd1 (m_Tt_offerDraft N s_table_10 r_6) fun s_table_12 =>
    some (s_self_8, s_table_12)
  else
    some (s_self, s_table)
set_option maxHeartbeats 4000000 in
set_option maxRecDepth 100000 in
theorem t_Ch_addLeaf_0 {p : Program} {l : Launch} {e : Env} {s : State} {m : MethodId} {args : Array Value} {below : List Frame} {meth : Method} {c : Code} {A : Nat → Prop} {D : va_G} {K : Nat → ClassId} (a_self a_grammar a_table : Nat → Nat) (X : gx p s m args c b_Ch_addLeaf 4 R_Ch w_Ch_addLeaf D classes (tyK K) A) (hr : meth.sig.returnType = none) (hlk : meth.locks = false) (N : Nat) (f_self f_table : Nat → Nat → Int32) (s_self s_grammar s_table : Nat → Nat → Int32) (v1 : Int32) (h : f_Ch_addLeaf_0 N s_self s_grammar s_table v1 = some (f_self, f_table)) : Gd p l e rm_Ch_addLeaf s m args below meth c 0 0 (MQ below (sq D classes (tyK K) none [wd_Ch K a_self (a_grammar 0) (a_table 0) f_self, wd_Gr K a_grammar s_grammar, wd_Tt K a_table f_table] A) args s 0 0 A) D classes A 4 0 [wd_Ch K a_self (a_grammar 0) (a_table 0) s_self, wd_Gr K a_grammar s_grammar, wd_Tt K a_table s_table] [(0, .ref (a_self 0)), (1, .int v1)] [] := by
  unfold f_Ch_addLeaf_0 at h
  refine gd_aload_n X d_Ch_addLeaf_0 0 rfl ?_
  refine gd_iload_n X d_Ch_addLeaf_1 1 rfl ?_
  obtain ⟨r_1, hc_2, h⟩ := bd1_e h
  refine gd_pI X (gd_V X (As := [.int v1]) (rest := []) (c_Ch_symbolIn l D K a_self a_grammar a_table s_self v1 r_1 hc_2) 1 (gi_V ml_Ch_133 u_Ch_symbolIn) rfl ⟨rfl, rfl⟩ (by decide +kernel) ⟨by decide, by decide⟩ (ci := 3) rfl rfl rfl rfl rfl rfl (Nat.le_of_ble_eq_true rfl) ⟨Nat.zero_le _, Nat.zero_le _⟩ d_Ch_addLeaf_2) [0] rfl rfl ?_
  refine gd_istore_n X (lv' := [(2, .int r_1), (0, .ref (a_self 0)), (1, .int v1)]) d_Ch_addLeaf_5 rfl (by decide) rfl ?_
  refine gd_iload_n X d_Ch_addLeaf_6 0 rfl ?_
  refine gd_if_lt X (tgt := 11) d_Ch_addLeaf_7 (by decide) (fun c_3 => ?_) (fun c_3 => ?_)
  · replace h := it_p c_3 h
    refine gd_aload_n X d_Ch_addLeaf_11 1 rfl ?_
    refine gd_get X (ci := 3) (C := R_Ch) (T := F_Ch) (N := 12) (v := .ref (a_grammar 0)) 0 0 rfl rfl rfl (in_Ch _) 0 (by decide) (List.mem_cons_of_mem _ fl_Ch_9) rfl rfl d_Ch_addLeaf_12 ?_
    refine gd_iload_n X d_Ch_addLeaf_15 0 rfl ?_
    obtain ⟨r_4, hc_5, h⟩ := bd1_e h
    refine gd_pI X (gd_V X (As := [.int r_1]) (rest := []) (c_Gr_sortOfCode l D K a_grammar s_grammar r_1 r_4 hc_5) 1 (gi_V ml_Ch_97 u_Gr_sortOfCode) rfl ⟨rfl, rfl⟩ (by decide +kernel) ⟨by decide, by decide⟩ (ci := 1) rfl rfl rfl rfl rfl rfl (Nat.le_of_ble_eq_true rfl) ⟨Nat.zero_le _, Nat.zero_le _⟩ d_Ch_addLeaf_16) [1] rfl rfl ?_
    refine gd_iload_n X d_Ch_addLeaf_19 2 rfl ?_
    refine gd_iload_n X d_Ch_addLeaf_20 2 rfl ?_
    refine gd_iconst X (v := 1) d_Ch_addLeaf_21 (by decide) ?_
    refine gd_iadd X d_Ch_addLeaf_22 ?_
    obtain ⟨r_6, hc_7, h⟩ := bd1_e h
    refine gd_pI X (gd_Sc X (As := [.int r_4, .int v1, .int (v1 + 1)]) (rest := []) (c_Ch_cellOf l D K r_4 v1 (v1 + 1) r_6 hc_7) 3 (gi_S ml_Ch_44 u_Ch_cellOf) rfl ⟨rfl, rfl⟩ (by decide +kernel) ⟨by decide, by decide⟩ rfl rfl (Nat.le_of_ble_eq_true rfl) ⟨Nat.zero_le _, Nat.zero_le _⟩ d_Ch_addLeaf_23) [] rfl rfl ?_
    refine gd_istore_n X (lv' := [(3, .int r_6), (2, .int r_1), (0, .ref (a_self 0)), (1, .int v1)]) d_Ch_addLeaf_26 rfl (by decide) rfl ?_
    refine gd_aload_n X d_Ch_addLeaf_27 2 rfl ?_
    refine gd_iload_n X d_Ch_addLeaf_28 0 rfl ?_
    refine gd_iconst X (v := 1) d_Ch_addLeaf_29 (by decide) ?_
    obtain ⟨s_self_8, hc_9, h⟩ := bd1_e h
    refine gd_cv X (gd_V X (As := [.int r_6, .int 1]) (rest := []) (c_Ch_setWays l D K a_self a_grammar a_table s_self r_6 1 s_self_8 hc_9) 2 (gi_V ml_Ch_110 u_Ch_setWays) rfl ⟨rfl, rfl⟩ (by decide +kernel) ⟨by decide, by decide⟩ (ci := 3) rfl rfl rfl rfl rfl rfl (Nat.le_of_ble_eq_true rfl) ⟨Nat.zero_le _, Nat.zero_le _⟩ d_Ch_addLeaf_30) (w2 := [wd_Ch K a_self (a_grammar 0) (a_table 0) s_self_8, wd_Gr K a_grammar s_grammar, wd_Tt K a_table s_table]) [0] [1, 2] rfl rfl rfl rfl ⟨rfl, rfl⟩ rfl ?_
    refine gd_aload_n X d_Ch_addLeaf_33 2 rfl ?_
    refine gd_get X (ci := 3) (C := R_Ch) (T := F_Ch) (N := 12) (v := .ref (a_table 0)) 0 0 rfl rfl rfl (in_Ch _) 1 (by decide) (List.mem_cons_of_mem _ fl_Ch_18) rfl rfl d_Ch_addLeaf_34 ?_
    refine gd_iload_n X d_Ch_addLeaf_37 1 rfl ?_
    refine gd_iconst X (v := 0) d_Ch_addLeaf_38 (by decide) ?_
    obtain ⟨s_table_10, hc_11, h⟩ := bd1_e h
    refine gd_cv X (gd_V X (As := [.int r_1, .int 0]) (rest := []) (c_Tt_startDraft l D K a_table s_table r_1 0 s_table_10 hc_11) 2 (gi_V ml_Ch_136 u_Tt_startDraft) rfl ⟨rfl, rfl⟩ (by decide +kernel) ⟨by decide, by decide⟩ (ci := 2) rfl rfl rfl rfl rfl rfl (Nat.le_of_ble_eq_true rfl) ⟨Nat.zero_le _, Nat.zero_le _⟩ d_Ch_addLeaf_39) (w2 := [wd_Ch K a_self (a_grammar 0) (a_table 0) s_self_8, wd_Gr K a_grammar s_grammar, wd_Tt K a_table s_table_10]) [2] [0, 1] rfl rfl rfl rfl ⟨rfl, rfl⟩ rfl ?_
    refine gd_aload_n X d_Ch_addLeaf_42 2 rfl ?_
    refine gd_get X (ci := 3) (C := R_Ch) (T := F_Ch) (N := 12) (v := .ref (a_table 0)) 0 0 rfl rfl rfl (in_Ch _) 1 (by decide) (List.mem_cons_of_mem _ fl_Ch_18) rfl rfl d_Ch_addLeaf_43 ?_
    refine gd_iload_n X d_Ch_addLeaf_46 0 rfl ?_
    obtain ⟨s_table_12, hc_13, h⟩ := bd1_e h
    refine gd_cv X (gd_V X (As := [.int r_6]) (rest := []) (c_Tt_offerDraft l D K a_table N s_table_10 r_6 s_table_12 hc_13) 1 (gi_V ml_Ch_139 u_Tt_offerDraft) rfl ⟨rfl, rfl⟩ (by decide +kernel) ⟨by decide, by decide⟩ (ci := 2) rfl rfl rfl rfl rfl rfl (Nat.le_of_ble_eq_true rfl) ⟨Nat.zero_le _, Nat.zero_le _⟩ d_Ch_addLeaf_47) (w2 := [wd_Ch K a_self (a_grammar 0) (a_table 0) s_self_8, wd_Gr K a_grammar s_grammar, wd_Tt K a_table s_table_12]) [2] [0, 1] rfl rfl rfl rfl ⟨rfl, rfl⟩ rfl ?_
    cases h
    exact gd_vret X hr hlk d_Ch_addLeaf_50
  · replace h := it_n c_3 h
    cases h
    exact gd_vret X hr hlk d_Ch_addLeaf_10
def m_Ch_addLeaf (N : Nat) (s_self s_grammar s_table : Nat → Nat → Int32) (v1 : Int32) : Option ((Nat → Nat → Int32) × (Nat → Nat → Int32)) := f_Ch_addLeaf_0 N s_self s_grammar s_table v1
set_option maxHeartbeats 4000000 in
set_option maxRecDepth 100000 in
theorem c_Ch_addLeaf (l : Launch) (D : va_G) (K : Nat → ClassId) (a_self a_grammar a_table : Nat → Nat) (N : Nat) (s_self s_grammar s_table : Nat → Nat → Int32) (v1 : Int32) (f_self f_table : Nat → Nat → Int32) (h : m_Ch_addLeaf N s_self s_grammar s_table v1 = some (f_self, f_table)) : SMet l y_Ch_addLeaf w_Ch_addLeaf rm_Ch_addLeaf D classes (tyK K) [.ref (a_self 0), .int v1] none [wd_Ch K a_self (a_grammar 0) (a_table 0) s_self, wd_Gr K a_grammar s_grammar, wd_Tt K a_table s_table] [wd_Ch K a_self (a_grammar 0) (a_table 0) f_self, wd_Gr K a_grammar s_grammar, wd_Tt K a_table f_table] := by
  refine sm_of R_Ch (by decide) rfl rfl (Nat.le_of_ble_eq_true rfl) ?_
  intro p e s m below meth c A X hr hlk
  refine gd_loc (lv' := [(0, .ref (a_self 0)), (1, .int v1)]) [0, 1] rfl ?_
  exact t_Ch_addLeaf_0 a_self a_grammar a_table X hr hlk N f_self f_table s_self s_grammar s_table v1 h
