abbrev b_Gr_symbolAt : ByteArray := prog_3_method_9_code
def y_Gr_symbolAt : MethodName := ⟨R_Gr, "symbolAt", "(II)I"⟩
def w_Gr_symbolAt : List Cond := .code y_Gr_symbolAt b_Gr_symbolAt 3 (some .int) :: TB
theorem k_Gr_symbolAt : Cond.code y_Gr_symbolAt b_Gr_symbolAt 3 (some .int) ∈ TB := tb_of 519 (by decide +kernel) (by decide +kernel)
theorem d_Gr_symbolAt_0 : decode b_Gr_symbolAt 0 = .ok (.aload_n 0, 1) := by decide +kernel
theorem d_Gr_symbolAt_1 : decode b_Gr_symbolAt 1 = .ok (.iload_n 1, 1) := by decide +kernel
theorem d_Gr_symbolAt_2 : decode b_Gr_symbolAt 2 = .ok (.invokevirtual 47, 3) := by decide +kernel
theorem d_Gr_symbolAt_5 : decode b_Gr_symbolAt 5 = .ok (.ifCond .eq 31, 3) := by decide +kernel
theorem d_Gr_symbolAt_8 : decode b_Gr_symbolAt 8 = .ok (.iload_n 2, 1) := by decide +kernel
theorem d_Gr_symbolAt_9 : decode b_Gr_symbolAt 9 = .ok (.ifCond .lt 27, 3) := by decide +kernel
theorem d_Gr_symbolAt_12 : decode b_Gr_symbolAt 12 = .ok (.iload_n 2, 1) := by decide +kernel
theorem d_Gr_symbolAt_13 : decode b_Gr_symbolAt 13 = .ok (.aload_n 0, 1) := by decide +kernel
theorem d_Gr_symbolAt_14 : decode b_Gr_symbolAt 14 = .ok (.getfield 18, 3) := by decide +kernel
theorem d_Gr_symbolAt_17 : decode b_Gr_symbolAt 17 = .ok (.iload_n 1, 1) := by decide +kernel
theorem d_Gr_symbolAt_18 : decode b_Gr_symbolAt 18 = .ok (.iaload, 1) := by decide +kernel
theorem d_Gr_symbolAt_19 : decode b_Gr_symbolAt 19 = .ok (.if_icmp .ge 17, 3) := by decide +kernel
theorem d_Gr_symbolAt_22 : decode b_Gr_symbolAt 22 = .ok (.aload_n 0, 1) := by decide +kernel
theorem d_Gr_symbolAt_23 : decode b_Gr_symbolAt 23 = .ok (.getfield 21, 3) := by decide +kernel
theorem d_Gr_symbolAt_26 : decode b_Gr_symbolAt 26 = .ok (.iload_n 1, 1) := by decide +kernel
theorem d_Gr_symbolAt_27 : decode b_Gr_symbolAt 27 = .ok (.bipush 8, 2) := by decide +kernel
theorem d_Gr_symbolAt_29 : decode b_Gr_symbolAt 29 = .ok (.imul, 1) := by decide +kernel
theorem d_Gr_symbolAt_30 : decode b_Gr_symbolAt 30 = .ok (.iload_n 2, 1) := by decide +kernel
theorem d_Gr_symbolAt_31 : decode b_Gr_symbolAt 31 = .ok (.iadd, 1) := by decide +kernel
theorem d_Gr_symbolAt_32 : decode b_Gr_symbolAt 32 = .ok (.iaload, 1) := by decide +kernel
theorem d_Gr_symbolAt_33 : decode b_Gr_symbolAt 33 = .ok (.goto 6, 3) := by decide +kernel
theorem d_Gr_symbolAt_36 : decode b_Gr_symbolAt 36 = .ok (.sipush (-1000), 3) := by decide +kernel
theorem d_Gr_symbolAt_39 : decode b_Gr_symbolAt 39 = .ok (.ireturn, 1) := by decide +kernel
theorem fl_Gr_21 : Cond.fieldLink R_Gr 21 "RuleTrees$Grammar" "ruleSymbols" "[I" ∈ TB := tb_of 99 (by decide +kernel) (by decide +kernel)
abbrev rm_Gr_symbolAt : Room := { frames := 1, cells := 0, slots := 0, locals := 21 }
def f_Gr_symbolAt_0 (s_self : Nat → Nat → Int32) (v1 v2 : Int32) : Option ((Int32)) :=
  bd1 (m_Gr_hasRule s_self v1) fun r_1 =>
  if r_1 = 0 then
    some ((-1000))
  else
    if v2 < 0 then
      some ((-1000))
    else
      ck v1 30 <|
      if (s_self 3 (Int32.toNatClampNeg v1)) ≤ v2 then
        some ((-1000))
      else
        ck ((v1 * 8) + v2) 240 <|
        some (s_self 4 (Int32.toNatClampNeg ((v1 * 8) + v2)))
set_option maxHeartbeats 4000000 in
set_option maxRecDepth 100000 in
theorem t_Gr_symbolAt_0 {p : Program} {l : Launch} {e : Env} {s : State} {m : MethodId} {args : Array Value} {below : List Frame} {meth : Method} {c : Code} {A : Nat → Prop} {D : va_G} {K : Nat → ClassId} (a_self : Nat → Nat) (X : gx p s m args c b_Gr_symbolAt 3 R_Gr w_Gr_symbolAt D classes (tyK K) A) (hr : meth.sig.returnType = some .int) (hlk : meth.locks = false) (r : Int32) (s_self : Nat → Nat → Int32) (v1 v2 : Int32) (h : f_Gr_symbolAt_0 s_self v1 v2 = some r) : Gd p l e rm_Gr_symbolAt s m args below meth c 0 0 (MQ below (sq D classes (tyK K) (some (.int r)) [wd_Gr K a_self s_self] A) args s 0 0 A) D classes A 3 0 [wd_Gr K a_self s_self] [(0, .ref (a_self 0)), (1, .int v1), (2, .int v2)] [] := by
  unfold f_Gr_symbolAt_0 at h
  refine gd_aload_n X d_Gr_symbolAt_0 0 rfl ?_
  refine gd_iload_n X d_Gr_symbolAt_1 1 rfl ?_
  obtain ⟨r_1, hc_2, h⟩ := bd1_e h
  refine gd_fI X (gd_V X (As := [.int v1]) (rest := []) (c_Gr_hasRule l D K a_self s_self v1 r_1 hc_2) 1 (gi_V ml_Gr_47 u_Gr_hasRule) rfl ⟨rfl, rfl⟩ (by decide +kernel) ⟨by decide, by decide⟩ (ci := 1) rfl rfl rfl rfl rfl rfl (Nat.le_of_ble_eq_true rfl) ⟨Nat.zero_le _, Nat.zero_le _⟩ d_Gr_symbolAt_2) ?_
  refine gd_if_eq X (tgt := 36) d_Gr_symbolAt_5 (by decide) (fun c_3 => ?_) (fun c_3 => ?_)
  · replace h := it_p c_3 h
    refine gd_sipush X (v := (-1000)) d_Gr_symbolAt_36 (by decide) ?_
    cases h
    exact gd_iret X hr hlk d_Gr_symbolAt_39
  · replace h := it_n c_3 h
    refine gd_iload_n X d_Gr_symbolAt_8 2 rfl ?_
    refine gd_if_lt X (tgt := 36) d_Gr_symbolAt_9 (by decide) (fun c_4 => ?_) (fun c_4 => ?_)
    · replace h := it_p c_4 h
      refine gd_sipush X (v := (-1000)) d_Gr_symbolAt_36 (by decide) ?_
      cases h
      exact gd_iret X hr hlk d_Gr_symbolAt_39
    · replace h := it_n c_4 h
      refine gd_iload_n X d_Gr_symbolAt_12 2 rfl ?_
      refine gd_aload_n X d_Gr_symbolAt_13 0 rfl ?_
      refine gd_get X (ci := 1) (C := R_Gr) (T := F_Gr) (N := 12) (v := .ref (a_self 3)) 0 0 rfl rfl rfl (in_Gr _) 7 (by decide) (List.mem_cons_of_mem _ fl_Gr_18) rfl rfl d_Gr_symbolAt_14 ?_
      refine gd_iload_n X d_Gr_symbolAt_17 1 rfl ?_
      obtain ⟨hi_5, h⟩ := ck_e h
      refine gd_iald X 0 3 0 rfl rfl rfl hi_5 d_Gr_symbolAt_18 ?_
      refine gd_icmp_ge X (tgt := 36) d_Gr_symbolAt_19 (by decide) (fun c_6 => ?_) (fun c_6 => ?_)
      · replace h := it_p c_6 h
        refine gd_sipush X (v := (-1000)) d_Gr_symbolAt_36 (by decide) ?_
        cases h
        exact gd_iret X hr hlk d_Gr_symbolAt_39
      · replace h := it_n c_6 h
        refine gd_aload_n X d_Gr_symbolAt_22 0 rfl ?_
        refine gd_get X (ci := 1) (C := R_Gr) (T := F_Gr) (N := 12) (v := .ref (a_self 4)) 0 0 rfl rfl rfl (in_Gr _) 8 (by decide) (List.mem_cons_of_mem _ fl_Gr_21) rfl rfl d_Gr_symbolAt_23 ?_
        refine gd_iload_n X d_Gr_symbolAt_26 1 rfl ?_
        refine gd_bipush X (v := 8) d_Gr_symbolAt_27 (by decide) ?_
        refine gd_imul X d_Gr_symbolAt_29 ?_
        refine gd_iload_n X d_Gr_symbolAt_30 2 rfl ?_
        refine gd_iadd X d_Gr_symbolAt_31 ?_
        obtain ⟨hi_7, h⟩ := ck_e h
        refine gd_iald X 0 4 0 rfl rfl rfl hi_7 d_Gr_symbolAt_32 ?_
        refine gd_goto X (tgt := 39) d_Gr_symbolAt_33 (by decide) ?_
        cases h
        exact gd_iret X hr hlk d_Gr_symbolAt_39
def m_Gr_symbolAt (s_self : Nat → Nat → Int32) (v1 v2 : Int32) : Option ((Int32)) := f_Gr_symbolAt_0 s_self v1 v2
set_option maxHeartbeats 4000000 in
set_option maxRecDepth 100000 in
theorem c_Gr_symbolAt (l : Launch) (D : va_G) (K : Nat → ClassId) (a_self : Nat → Nat) (s_self : Nat → Nat → Int32) (v1 v2 : Int32) (r : Int32) (h : m_Gr_symbolAt s_self v1 v2 = some r) : SMet l y_Gr_symbolAt w_Gr_symbolAt rm_Gr_symbolAt D classes (tyK K) [.ref (a_self 0), .int v1, .int v2] (some (.int r)) [wd_Gr K a_self s_self] [wd_Gr K a_self s_self] := by
  refine sm_of R_Gr (by decide) rfl rfl (Nat.le_of_ble_eq_true rfl) ?_
  intro p e s m below meth c A X hr hlk
  refine gd_loc (lv' := [(0, .ref (a_self 0)), (1, .int v1), (2, .int v2)]) [0, 1, 2] rfl ?_
  exact t_Gr_symbolAt_0 a_self X hr hlk r s_self v1 v2 h
abbrev b_Gr_slotAt : ByteArray := prog_3_method_10_code
def y_Gr_slotAt : MethodName := ⟨R_Gr, "slotAt", "(II)I"⟩
def w_Gr_slotAt : List Cond := .code y_Gr_slotAt b_Gr_slotAt 3 (some .int) :: TB
theorem k_Gr_slotAt : Cond.code y_Gr_slotAt b_Gr_slotAt 3 (some .int) ∈ TB := tb_of 515 (by decide +kernel) (by decide +kernel)
theorem d_Gr_slotAt_0 : decode b_Gr_slotAt 0 = .ok (.aload_n 0, 1) := by decide +kernel
theorem d_Gr_slotAt_1 : decode b_Gr_slotAt 1 = .ok (.iload_n 1, 1) := by decide +kernel
theorem d_Gr_slotAt_2 : decode b_Gr_slotAt 2 = .ok (.invokevirtual 47, 3) := by decide +kernel
theorem d_Gr_slotAt_5 : decode b_Gr_slotAt 5 = .ok (.ifCond .eq 31, 3) := by decide +kernel
theorem d_Gr_slotAt_8 : decode b_Gr_slotAt 8 = .ok (.iload_n 2, 1) := by decide +kernel
theorem d_Gr_slotAt_9 : decode b_Gr_slotAt 9 = .ok (.ifCond .lt 27, 3) := by decide +kernel
theorem d_Gr_slotAt_12 : decode b_Gr_slotAt 12 = .ok (.iload_n 2, 1) := by decide +kernel
theorem d_Gr_slotAt_13 : decode b_Gr_slotAt 13 = .ok (.aload_n 0, 1) := by decide +kernel
theorem d_Gr_slotAt_14 : decode b_Gr_slotAt 14 = .ok (.getfield 18, 3) := by decide +kernel
theorem d_Gr_slotAt_17 : decode b_Gr_slotAt 17 = .ok (.iload_n 1, 1) := by decide +kernel
theorem d_Gr_slotAt_18 : decode b_Gr_slotAt 18 = .ok (.iaload, 1) := by decide +kernel
theorem d_Gr_slotAt_19 : decode b_Gr_slotAt 19 = .ok (.if_icmp .ge 17, 3) := by decide +kernel
theorem d_Gr_slotAt_22 : decode b_Gr_slotAt 22 = .ok (.aload_n 0, 1) := by decide +kernel
theorem d_Gr_slotAt_23 : decode b_Gr_slotAt 23 = .ok (.getfield 24, 3) := by decide +kernel
theorem d_Gr_slotAt_26 : decode b_Gr_slotAt 26 = .ok (.iload_n 1, 1) := by decide +kernel
theorem d_Gr_slotAt_27 : decode b_Gr_slotAt 27 = .ok (.bipush 8, 2) := by decide +kernel
theorem d_Gr_slotAt_29 : decode b_Gr_slotAt 29 = .ok (.imul, 1) := by decide +kernel
theorem d_Gr_slotAt_30 : decode b_Gr_slotAt 30 = .ok (.iload_n 2, 1) := by decide +kernel
theorem d_Gr_slotAt_31 : decode b_Gr_slotAt 31 = .ok (.iadd, 1) := by decide +kernel
theorem d_Gr_slotAt_32 : decode b_Gr_slotAt 32 = .ok (.iaload, 1) := by decide +kernel
theorem d_Gr_slotAt_33 : decode b_Gr_slotAt 33 = .ok (.goto 4, 3) := by decide +kernel
theorem d_Gr_slotAt_36 : decode b_Gr_slotAt 36 = .ok (.iconst (-1), 1) := by decide +kernel
theorem d_Gr_slotAt_37 : decode b_Gr_slotAt 37 = .ok (.ireturn, 1) := by decide +kernel
theorem fl_Gr_24 : Cond.fieldLink R_Gr 24 "RuleTrees$Grammar" "symbolSlot" "[I" ∈ TB := tb_of 100 (by decide +kernel) (by decide +kernel)
abbrev rm_Gr_slotAt : Room := { frames := 1, cells := 0, slots := 0, locals := 21 }
def f_Gr_slotAt_0 (s_self : Nat → Nat → Int32) (v1 v2 : Int32) : Option ((Int32)) :=
  bd1 (m_Gr_hasRule s_self v1) fun r_1 =>
  if r_1 = 0 then
    some ((-1))
  else
    if v2 < 0 then
      some ((-1))
    else
      ck v1 30 <|
      if (s_self 3 (Int32.toNatClampNeg v1)) ≤ v2 then
        some ((-1))
      else
        ck ((v1 * 8) + v2) 240 <|
        some (s_self 5 (Int32.toNatClampNeg ((v1 * 8) + v2)))
set_option maxHeartbeats 4000000 in
set_option maxRecDepth 100000 in
theorem t_Gr_slotAt_0 {p : Program} {l : Launch} {e : Env} {s : State} {m : MethodId} {args : Array Value} {below : List Frame} {meth : Method} {c : Code} {A : Nat → Prop} {D : va_G} {K : Nat → ClassId} (a_self : Nat → Nat) (X : gx p s m args c b_Gr_slotAt 3 R_Gr w_Gr_slotAt D classes (tyK K) A) (hr : meth.sig.returnType = some .int) (hlk : meth.locks = false) (r : Int32) (s_self : Nat → Nat → Int32) (v1 v2 : Int32) (h : f_Gr_slotAt_0 s_self v1 v2 = some r) : Gd p l e rm_Gr_slotAt s m args below meth c 0 0 (MQ below (sq D classes (tyK K) (some (.int r)) [wd_Gr K a_self s_self] A) args s 0 0 A) D classes A 3 0 [wd_Gr K a_self s_self] [(0, .ref (a_self 0)), (1, .int v1), (2, .int v2)] [] := by
  unfold f_Gr_slotAt_0 at h
  refine gd_aload_n X d_Gr_slotAt_0 0 rfl ?_
  refine gd_iload_n X d_Gr_slotAt_1 1 rfl ?_
  obtain ⟨r_1, hc_2, h⟩ := bd1_e h
  refine gd_fI X (gd_V X (As := [.int v1]) (rest := []) (c_Gr_hasRule l D K a_self s_self v1 r_1 hc_2) 1 (gi_V ml_Gr_47 u_Gr_hasRule) rfl ⟨rfl, rfl⟩ (by decide +kernel) ⟨by decide, by decide⟩ (ci := 1) rfl rfl rfl rfl rfl rfl (Nat.le_of_ble_eq_true rfl) ⟨Nat.zero_le _, Nat.zero_le _⟩ d_Gr_slotAt_2) ?_
  refine gd_if_eq X (tgt := 36) d_Gr_slotAt_5 (by decide) (fun c_3 => ?_) (fun c_3 => ?_)
  · replace h := it_p c_3 h
    refine gd_iconst X (v := (-1)) d_Gr_slotAt_36 (by decide) ?_
    cases h
    exact gd_iret X hr hlk d_Gr_slotAt_37
  · replace h := it_n c_3 h
    refine gd_iload_n X d_Gr_slotAt_8 2 rfl ?_
    refine gd_if_lt X (tgt := 36) d_Gr_slotAt_9 (by decide) (fun c_4 => ?_) (fun c_4 => ?_)
    · replace h := it_p c_4 h
      refine gd_iconst X (v := (-1)) d_Gr_slotAt_36 (by decide) ?_
      cases h
      exact gd_iret X hr hlk d_Gr_slotAt_37
    · replace h := it_n c_4 h
      refine gd_iload_n X d_Gr_slotAt_12 2 rfl ?_
      refine gd_aload_n X d_Gr_slotAt_13 0 rfl ?_
      refine gd_get X (ci := 1) (C := R_Gr) (T := F_Gr) (N := 12) (v := .ref (a_self 3)) 0 0 rfl rfl rfl (in_Gr _) 7 (by decide) (List.mem_cons_of_mem _ fl_Gr_18) rfl rfl d_Gr_slotAt_14 ?_
      refine gd_iload_n X d_Gr_slotAt_17 1 rfl ?_
      obtain ⟨hi_5, h⟩ := ck_e h
      refine gd_iald X 0 3 0 rfl rfl rfl hi_5 d_Gr_slotAt_18 ?_
      refine gd_icmp_ge X (tgt := 36) d_Gr_slotAt_19 (by decide) (fun c_6 => ?_) (fun c_6 => ?_)
      · replace h := it_p c_6 h
        refine gd_iconst X (v := (-1)) d_Gr_slotAt_36 (by decide) ?_
        cases h
        exact gd_iret X hr hlk d_Gr_slotAt_37
      · replace h := it_n c_6 h
        refine gd_aload_n X d_Gr_slotAt_22 0 rfl ?_
        refine gd_get X (ci := 1) (C := R_Gr) (T := F_Gr) (N := 12) (v := .ref (a_self 5)) 0 0 rfl rfl rfl (in_Gr _) 9 (by decide) (List.mem_cons_of_mem _ fl_Gr_24) rfl rfl d_Gr_slotAt_23 ?_
        refine gd_iload_n X d_Gr_slotAt_26 1 rfl ?_
        refine gd_bipush X (v := 8) d_Gr_slotAt_27 (by decide) ?_
        refine gd_imul X d_Gr_slotAt_29 ?_
        refine gd_iload_n X d_Gr_slotAt_30 2 rfl ?_
        refine gd_iadd X d_Gr_slotAt_31 ?_
        obtain ⟨hi_7, h⟩ := ck_e h
        refine gd_iald X 0 5 0 rfl rfl rfl hi_7 d_Gr_slotAt_32 ?_
        refine gd_goto X (tgt := 37) d_Gr_slotAt_33 (by decide) ?_
        cases h
        exact gd_iret X hr hlk d_Gr_slotAt_37
def m_Gr_slotAt (s_self : Nat → Nat → Int32) (v1 v2 : Int32) : Option ((Int32)) := f_Gr_slotAt_0 s_self v1 v2
set_option maxHeartbeats 4000000 in
set_option maxRecDepth 100000 in
theorem c_Gr_slotAt (l : Launch) (D : va_G) (K : Nat → ClassId) (a_self : Nat → Nat) (s_self : Nat → Nat → Int32) (v1 v2 : Int32) (r : Int32) (h : m_Gr_slotAt s_self v1 v2 = some r) : SMet l y_Gr_slotAt w_Gr_slotAt rm_Gr_slotAt D classes (tyK K) [.ref (a_self 0), .int v1, .int v2] (some (.int r)) [wd_Gr K a_self s_self] [wd_Gr K a_self s_self] := by
  refine sm_of R_Gr (by decide) rfl rfl (Nat.le_of_ble_eq_true rfl) ?_
  intro p e s m below meth c A X hr hlk
  refine gd_loc (lv' := [(0, .ref (a_self 0)), (1, .int v1), (2, .int v2)]) [0, 1, 2] rfl ?_
  exact t_Gr_slotAt_0 a_self X hr hlk r s_self v1 v2 h
abbrev b_Gr_sortOfSlot : ByteArray := prog_3_method_11_code
def y_Gr_sortOfSlot : MethodName := ⟨R_Gr, "sortOfSlot", "(II)I"⟩
def w_Gr_sortOfSlot : List Cond := .code y_Gr_sortOfSlot b_Gr_sortOfSlot 3 (some .int) :: TB
theorem k_Gr_sortOfSlot : Cond.code y_Gr_sortOfSlot b_Gr_sortOfSlot 3 (some .int) ∈ TB := tb_of 402 (by decide +kernel) (by decide +kernel)
theorem d_Gr_sortOfSlot_0 : decode b_Gr_sortOfSlot 0 = .ok (.aload_n 0, 1) := by decide +kernel
theorem d_Gr_sortOfSlot_1 : decode b_Gr_sortOfSlot 1 = .ok (.iload_n 1, 1) := by decide +kernel
theorem d_Gr_sortOfSlot_2 : decode b_Gr_sortOfSlot 2 = .ok (.invokevirtual 47, 3) := by decide +kernel
theorem d_Gr_sortOfSlot_5 : decode b_Gr_sortOfSlot 5 = .ok (.ifCond .eq 30, 3) := by decide +kernel
theorem d_Gr_sortOfSlot_8 : decode b_Gr_sortOfSlot 8 = .ok (.iload_n 2, 1) := by decide +kernel
theorem d_Gr_sortOfSlot_9 : decode b_Gr_sortOfSlot 9 = .ok (.ifCond .lt 26, 3) := by decide +kernel
theorem d_Gr_sortOfSlot_12 : decode b_Gr_sortOfSlot 12 = .ok (.iload_n 2, 1) := by decide +kernel
theorem d_Gr_sortOfSlot_13 : decode b_Gr_sortOfSlot 13 = .ok (.aload_n 0, 1) := by decide +kernel
theorem d_Gr_sortOfSlot_14 : decode b_Gr_sortOfSlot 14 = .ok (.getfield 27, 3) := by decide +kernel
theorem d_Gr_sortOfSlot_17 : decode b_Gr_sortOfSlot 17 = .ok (.iload_n 1, 1) := by decide +kernel
theorem d_Gr_sortOfSlot_18 : decode b_Gr_sortOfSlot 18 = .ok (.iaload, 1) := by decide +kernel
theorem d_Gr_sortOfSlot_19 : decode b_Gr_sortOfSlot 19 = .ok (.if_icmp .ge 16, 3) := by decide +kernel
theorem d_Gr_sortOfSlot_22 : decode b_Gr_sortOfSlot 22 = .ok (.aload_n 0, 1) := by decide +kernel
theorem d_Gr_sortOfSlot_23 : decode b_Gr_sortOfSlot 23 = .ok (.getfield 30, 3) := by decide +kernel
theorem d_Gr_sortOfSlot_26 : decode b_Gr_sortOfSlot 26 = .ok (.iload_n 1, 1) := by decide +kernel
theorem d_Gr_sortOfSlot_27 : decode b_Gr_sortOfSlot 27 = .ok (.iconst 4, 1) := by decide +kernel
theorem d_Gr_sortOfSlot_28 : decode b_Gr_sortOfSlot 28 = .ok (.imul, 1) := by decide +kernel
theorem d_Gr_sortOfSlot_29 : decode b_Gr_sortOfSlot 29 = .ok (.iload_n 2, 1) := by decide +kernel
theorem d_Gr_sortOfSlot_30 : decode b_Gr_sortOfSlot 30 = .ok (.iadd, 1) := by decide +kernel
theorem d_Gr_sortOfSlot_31 : decode b_Gr_sortOfSlot 31 = .ok (.iaload, 1) := by decide +kernel
theorem d_Gr_sortOfSlot_32 : decode b_Gr_sortOfSlot 32 = .ok (.goto 4, 3) := by decide +kernel
theorem d_Gr_sortOfSlot_35 : decode b_Gr_sortOfSlot 35 = .ok (.iconst (-1), 1) := by decide +kernel
theorem d_Gr_sortOfSlot_36 : decode b_Gr_sortOfSlot 36 = .ok (.ireturn, 1) := by decide +kernel
theorem fl_Gr_30 : Cond.fieldLink R_Gr 30 "RuleTrees$Grammar" "slotSort" "[I" ∈ TB := tb_of 102 (by decide +kernel) (by decide +kernel)
abbrev rm_Gr_sortOfSlot : Room := { frames := 1, cells := 0, slots := 0, locals := 21 }
def f_Gr_sortOfSlot_0 (s_self : Nat → Nat → Int32) (v1 v2 : Int32) : Option ((Int32)) :=
  bd1 (m_Gr_hasRule s_self v1) fun r_1 =>
  if r_1 = 0 then
    some ((-1))
  else
    if v2 < 0 then
      some ((-1))
    else
      ck v1 30 <|
      if (s_self 6 (Int32.toNatClampNeg v1)) ≤ v2 then
        some ((-1))
      else
        ck ((v1 * 4) + v2) 120 <|
        some (s_self 7 (Int32.toNatClampNeg ((v1 * 4) + v2)))
set_option maxHeartbeats 4000000 in
set_option maxRecDepth 100000 in
theorem t_Gr_sortOfSlot_0 {p : Program} {l : Launch} {e : Env} {s : State} {m : MethodId} {args : Array Value} {below : List Frame} {meth : Method} {c : Code} {A : Nat → Prop} {D : va_G} {K : Nat → ClassId} (a_self : Nat → Nat) (X : gx p s m args c b_Gr_sortOfSlot 3 R_Gr w_Gr_sortOfSlot D classes (tyK K) A) (hr : meth.sig.returnType = some .int) (hlk : meth.locks = false) (r : Int32) (s_self : Nat → Nat → Int32) (v1 v2 : Int32) (h : f_Gr_sortOfSlot_0 s_self v1 v2 = some r) : Gd p l e rm_Gr_sortOfSlot s m args below meth c 0 0 (MQ below (sq D classes (tyK K) (some (.int r)) [wd_Gr K a_self s_self] A) args s 0 0 A) D classes A 3 0 [wd_Gr K a_self s_self] [(0, .ref (a_self 0)), (1, .int v1), (2, .int v2)] [] := by
  unfold f_Gr_sortOfSlot_0 at h
  refine gd_aload_n X d_Gr_sortOfSlot_0 0 rfl ?_
  refine gd_iload_n X d_Gr_sortOfSlot_1 1 rfl ?_
  obtain ⟨r_1, hc_2, h⟩ := bd1_e h
  refine gd_fI X (gd_V X (As := [.int v1]) (rest := []) (c_Gr_hasRule l D K a_self s_self v1 r_1 hc_2) 1 (gi_V ml_Gr_47 u_Gr_hasRule) rfl ⟨rfl, rfl⟩ (by decide +kernel) ⟨by decide, by decide⟩ (ci := 1) rfl rfl rfl rfl rfl rfl (Nat.le_of_ble_eq_true rfl) ⟨Nat.zero_le _, Nat.zero_le _⟩ d_Gr_sortOfSlot_2) ?_
  refine gd_if_eq X (tgt := 35) d_Gr_sortOfSlot_5 (by decide) (fun c_3 => ?_) (fun c_3 => ?_)
  · replace h := it_p c_3 h
    refine gd_iconst X (v := (-1)) d_Gr_sortOfSlot_35 (by decide) ?_
    cases h
    exact gd_iret X hr hlk d_Gr_sortOfSlot_36
  · replace h := it_n c_3 h
    refine gd_iload_n X d_Gr_sortOfSlot_8 2 rfl ?_
    refine gd_if_lt X (tgt := 35) d_Gr_sortOfSlot_9 (by decide) (fun c_4 => ?_) (fun c_4 => ?_)
    · replace h := it_p c_4 h
      refine gd_iconst X (v := (-1)) d_Gr_sortOfSlot_35 (by decide) ?_
      cases h
      exact gd_iret X hr hlk d_Gr_sortOfSlot_36
    · replace h := it_n c_4 h
      refine gd_iload_n X d_Gr_sortOfSlot_12 2 rfl ?_
      refine gd_aload_n X d_Gr_sortOfSlot_13 0 rfl ?_
      refine gd_get X (ci := 1) (C := R_Gr) (T := F_Gr) (N := 12) (v := .ref (a_self 6)) 0 0 rfl rfl rfl (in_Gr _) 10 (by decide) (List.mem_cons_of_mem _ fl_Gr_27) rfl rfl d_Gr_sortOfSlot_14 ?_
      refine gd_iload_n X d_Gr_sortOfSlot_17 1 rfl ?_
      obtain ⟨hi_5, h⟩ := ck_e h
      refine gd_iald X 0 6 0 rfl rfl rfl hi_5 d_Gr_sortOfSlot_18 ?_
      refine gd_icmp_ge X (tgt := 35) d_Gr_sortOfSlot_19 (by decide) (fun c_6 => ?_) (fun c_6 => ?_)
      · replace h := it_p c_6 h
        refine gd_iconst X (v := (-1)) d_Gr_sortOfSlot_35 (by decide) ?_
        cases h
        exact gd_iret X hr hlk d_Gr_sortOfSlot_36
      · replace h := it_n c_6 h
        refine gd_aload_n X d_Gr_sortOfSlot_22 0 rfl ?_
        refine gd_get X (ci := 1) (C := R_Gr) (T := F_Gr) (N := 12) (v := .ref (a_self 7)) 0 0 rfl rfl rfl (in_Gr _) 11 (by decide) (List.mem_cons_of_mem _ fl_Gr_30) rfl rfl d_Gr_sortOfSlot_23 ?_
        refine gd_iload_n X d_Gr_sortOfSlot_26 1 rfl ?_
        refine gd_iconst X (v := 4) d_Gr_sortOfSlot_27 (by decide) ?_
        refine gd_imul X d_Gr_sortOfSlot_28 ?_
        refine gd_iload_n X d_Gr_sortOfSlot_29 2 rfl ?_
        refine gd_iadd X d_Gr_sortOfSlot_30 ?_
        obtain ⟨hi_7, h⟩ := ck_e h
        refine gd_iald X 0 7 0 rfl rfl rfl hi_7 d_Gr_sortOfSlot_31 ?_
        refine gd_goto X (tgt := 36) d_Gr_sortOfSlot_32 (by decide) ?_
        cases h
        exact gd_iret X hr hlk d_Gr_sortOfSlot_36
def m_Gr_sortOfSlot (s_self : Nat → Nat → Int32) (v1 v2 : Int32) : Option ((Int32)) := f_Gr_sortOfSlot_0 s_self v1 v2
set_option maxHeartbeats 4000000 in
set_option maxRecDepth 100000 in
theorem c_Gr_sortOfSlot (l : Launch) (D : va_G) (K : Nat → ClassId) (a_self : Nat → Nat) (s_self : Nat → Nat → Int32) (v1 v2 : Int32) (r : Int32) (h : m_Gr_sortOfSlot s_self v1 v2 = some r) : SMet l y_Gr_sortOfSlot w_Gr_sortOfSlot rm_Gr_sortOfSlot D classes (tyK K) [.ref (a_self 0), .int v1, .int v2] (some (.int r)) [wd_Gr K a_self s_self] [wd_Gr K a_self s_self] := by
  refine sm_of R_Gr (by decide) rfl rfl (Nat.le_of_ble_eq_true rfl) ?_
  intro p e s m below meth c A X hr hlk
  refine gd_loc (lv' := [(0, .ref (a_self 0)), (1, .int v1), (2, .int v2)]) [0, 1, 2] rfl ?_
  exact t_Gr_sortOfSlot_0 a_self X hr hlk r s_self v1 v2 h
abbrev b_Gr_isUnit : ByteArray := prog_3_method_12_code
def y_Gr_isUnit : MethodName := ⟨R_Gr, "isUnit", "(I)Z"⟩
def w_Gr_isUnit : List Cond := .code y_Gr_isUnit b_Gr_isUnit 2 (some .boolean) :: TB
theorem k_Gr_isUnit : Cond.code y_Gr_isUnit b_Gr_isUnit 2 (some .boolean) ∈ TB := tb_of 378 (by decide +kernel) (by decide +kernel)
theorem d_Gr_isUnit_0 : decode b_Gr_isUnit 0 = .ok (.aload_n 0, 1) := by decide +kernel
theorem d_Gr_isUnit_1 : decode b_Gr_isUnit 1 = .ok (.iload_n 1, 1) := by decide +kernel
theorem d_Gr_isUnit_2 : decode b_Gr_isUnit 2 = .ok (.invokevirtual 50, 3) := by decide +kernel
theorem d_Gr_isUnit_5 : decode b_Gr_isUnit 5 = .ok (.iconst 1, 1) := by decide +kernel
theorem d_Gr_isUnit_6 : decode b_Gr_isUnit 6 = .ok (.if_icmp .ne 16, 3) := by decide +kernel
theorem d_Gr_isUnit_9 : decode b_Gr_isUnit 9 = .ok (.aload_n 0, 1) := by decide +kernel
theorem d_Gr_isUnit_10 : decode b_Gr_isUnit 10 = .ok (.iload_n 1, 1) := by decide +kernel
theorem d_Gr_isUnit_11 : decode b_Gr_isUnit 11 = .ok (.invokevirtual 54, 3) := by decide +kernel
theorem d_Gr_isUnit_14 : decode b_Gr_isUnit 14 = .ok (.iconst 1, 1) := by decide +kernel
theorem d_Gr_isUnit_15 : decode b_Gr_isUnit 15 = .ok (.if_icmp .ne 7, 3) := by decide +kernel
theorem d_Gr_isUnit_18 : decode b_Gr_isUnit 18 = .ok (.iconst 1, 1) := by decide +kernel
theorem d_Gr_isUnit_19 : decode b_Gr_isUnit 19 = .ok (.goto 4, 3) := by decide +kernel
theorem d_Gr_isUnit_22 : decode b_Gr_isUnit 22 = .ok (.iconst 0, 1) := by decide +kernel
theorem d_Gr_isUnit_23 : decode b_Gr_isUnit 23 = .ok (.ireturn, 1) := by decide +kernel
theorem ml_Gr_50 : Cond.methodLink R_Gr 50 ⟨"RuleTrees$Grammar", "lengthOfRule", "(I)I"⟩ ∈ TB := tb_of 379 (by decide +kernel) (by decide +kernel)
theorem u_Gr_lengthOfRule : (Cond.instanceMethod y_Gr_lengthOfRule ∈ TB ∧ Cond.selects R_Gr y_Gr_lengthOfRule y_Gr_lengthOfRule ∈ TB) ∧ Cond.initialized R_Gr ∈ TB ∧ Cond.code y_Gr_lengthOfRule b_Gr_lengthOfRule 2 (some .int) ∈ TB := ⟨⟨(tb_of 380 (by decide +kernel) (by decide +kernel)), (tb_of 381 (by decide +kernel) (by decide +kernel))⟩, (tb_of 63 (by decide +kernel) (by decide +kernel)), k_Gr_lengthOfRule⟩
theorem ml_Gr_54 : Cond.methodLink R_Gr 54 ⟨"RuleTrees$Grammar", "slotsOfCode", "(I)I"⟩ ∈ TB := tb_of 387 (by decide +kernel) (by decide +kernel)
theorem u_Gr_slotsOfCode : (Cond.instanceMethod y_Gr_slotsOfCode ∈ TB ∧ Cond.selects R_Gr y_Gr_slotsOfCode y_Gr_slotsOfCode ∈ TB) ∧ Cond.initialized R_Gr ∈ TB ∧ Cond.code y_Gr_slotsOfCode b_Gr_slotsOfCode 2 (some .int) ∈ TB := ⟨⟨(tb_of 388 (by decide +kernel) (by decide +kernel)), (tb_of 389 (by decide +kernel) (by decide +kernel))⟩, (tb_of 63 (by decide +kernel) (by decide +kernel)), k_Gr_slotsOfCode⟩
abbrev rm_Gr_isUnit : Room := { frames := 2, cells := 0, slots := 0, locals := 42 }
def f_Gr_isUnit_0 (s_self : Nat → Nat → Int32) (v1 : Int32) : Option ((Int32)) :=
  bd1 (m_Gr_lengthOfRule s_self v1) fun r_1 =>
  if r_1 = 1 then
    bd1 (m_Gr_slotsOfCode s_self v1) fun r_4 =>
    if r_4 = 1 then
      some (1)
    else
      some (0)
  else
    some (0)
set_option maxHeartbeats 4000000 in
set_option maxRecDepth 100000 in
theorem t_Gr_isUnit_0 {p : Program} {l : Launch} {e : Env} {s : State} {m : MethodId} {args : Array Value} {below : List Frame} {meth : Method} {c : Code} {A : Nat → Prop} {D : va_G} {K : Nat → ClassId} (a_self : Nat → Nat) (X : gx p s m args c b_Gr_isUnit 2 R_Gr w_Gr_isUnit D classes (tyK K) A) (hr : meth.sig.returnType = some .boolean) (hlk : meth.locks = false) (r : Int32) (s_self : Nat → Nat → Int32) (v1 : Int32) (h : f_Gr_isUnit_0 s_self v1 = some r) : Gd p l e rm_Gr_isUnit s m args below meth c 0 0 (MQ below (sq D classes (tyK K) (some (.int r)) [wd_Gr K a_self s_self] A) args s 0 0 A) D classes A 2 0 [wd_Gr K a_self s_self] [(0, .ref (a_self 0)), (1, .int v1)] [] := by
  unfold f_Gr_isUnit_0 at h
  refine gd_aload_n X d_Gr_isUnit_0 0 rfl ?_
  refine gd_iload_n X d_Gr_isUnit_1 1 rfl ?_
  obtain ⟨r_1, hc_2, h⟩ := bd1_e h
  refine gd_fI X (gd_V X (As := [.int v1]) (rest := []) (c_Gr_lengthOfRule l D K a_self s_self v1 r_1 hc_2) 1 (gi_V ml_Gr_50 u_Gr_lengthOfRule) rfl ⟨rfl, rfl⟩ (by decide +kernel) ⟨by decide, by decide⟩ (ci := 1) rfl rfl rfl rfl rfl rfl (Nat.le_of_ble_eq_true rfl) ⟨Nat.zero_le _, Nat.zero_le _⟩ d_Gr_isUnit_2) ?_
  refine gd_iconst X (v := 1) d_Gr_isUnit_5 (by decide) ?_
  refine gd_icmp_ne X (tgt := 22) d_Gr_isUnit_6 (by decide) (fun c_3 => ?_) (fun c_3 => ?_)
  · replace h := it_n c_3 h
    refine gd_iconst X (v := 0) d_Gr_isUnit_22 (by decide) ?_
    cases h
    exact gd_zret X hr hlk (by decide) d_Gr_isUnit_23
  · replace h := it_p c_3 h
    refine gd_aload_n X d_Gr_isUnit_9 0 rfl ?_
    refine gd_iload_n X d_Gr_isUnit_10 1 rfl ?_
    obtain ⟨r_4, hc_5, h⟩ := bd1_e h
    refine gd_fI X (gd_V X (As := [.int v1]) (rest := []) (c_Gr_slotsOfCode l D K a_self s_self v1 r_4 hc_5) 1 (gi_V ml_Gr_54 u_Gr_slotsOfCode) rfl ⟨rfl, rfl⟩ (by decide +kernel) ⟨by decide, by decide⟩ (ci := 1) rfl rfl rfl rfl rfl rfl (Nat.le_of_ble_eq_true rfl) ⟨Nat.zero_le _, Nat.zero_le _⟩ d_Gr_isUnit_11) ?_
    refine gd_iconst X (v := 1) d_Gr_isUnit_14 (by decide) ?_
    refine gd_icmp_ne X (tgt := 22) d_Gr_isUnit_15 (by decide) (fun c_6 => ?_) (fun c_6 => ?_)
    · replace h := it_n c_6 h
      refine gd_iconst X (v := 0) d_Gr_isUnit_22 (by decide) ?_
      cases h
      exact gd_zret X hr hlk (by decide) d_Gr_isUnit_23
    · replace h := it_p c_6 h
      refine gd_iconst X (v := 1) d_Gr_isUnit_18 (by decide) ?_
      refine gd_goto X (tgt := 23) d_Gr_isUnit_19 (by decide) ?_
      cases h
      exact gd_zret X hr hlk (by decide) d_Gr_isUnit_23
def m_Gr_isUnit (s_self : Nat → Nat → Int32) (v1 : Int32) : Option ((Int32)) := f_Gr_isUnit_0 s_self v1
set_option maxHeartbeats 4000000 in
set_option maxRecDepth 100000 in
theorem c_Gr_isUnit (l : Launch) (D : va_G) (K : Nat → ClassId) (a_self : Nat → Nat) (s_self : Nat → Nat → Int32) (v1 : Int32) (r : Int32) (h : m_Gr_isUnit s_self v1 = some r) : SMet l y_Gr_isUnit w_Gr_isUnit rm_Gr_isUnit D classes (tyK K) [.ref (a_self 0), .int v1] (some (.int r)) [wd_Gr K a_self s_self] [wd_Gr K a_self s_self] := by
  refine sm_of R_Gr (by decide) rfl rfl (Nat.le_of_ble_eq_true rfl) ?_
  intro p e s m below meth c A X hr hlk
  refine gd_loc (lv' := [(0, .ref (a_self 0)), (1, .int v1)]) [0, 1] rfl ?_
  exact t_Gr_isUnit_0 a_self X hr hlk r s_self v1 h
abbrev b_Gr_begunLength : ByteArray := prog_3_method_13_code
def y_Gr_begunLength : MethodName := ⟨R_Gr, "begunLength", "()I"⟩
def w_Gr_begunLength : List Cond := .code y_Gr_begunLength b_Gr_begunLength 1 (some .int) :: TB
theorem k_Gr_begunLength : Cond.code y_Gr_begunLength b_Gr_begunLength 1 (some .int) ∈ TB := tb_of 344 (by decide +kernel) (by decide +kernel)
theorem d_Gr_begunLength_0 : decode b_Gr_begunLength 0 = .ok (.aload_n 0, 1) := by decide +kernel
theorem d_Gr_begunLength_1 : decode b_Gr_begunLength 1 = .ok (.getfield 57, 3) := by decide +kernel
theorem d_Gr_begunLength_4 : decode b_Gr_begunLength 4 = .ok (.ifCond .eq 24, 3) := by decide +kernel
theorem d_Gr_begunLength_7 : decode b_Gr_begunLength 7 = .ok (.aload_n 0, 1) := by decide +kernel
theorem d_Gr_begunLength_8 : decode b_Gr_begunLength 8 = .ok (.getfield 37, 3) := by decide +kernel
theorem d_Gr_begunLength_11 : decode b_Gr_begunLength 11 = .ok (.bipush 30, 2) := by decide +kernel
theorem d_Gr_begunLength_13 : decode b_Gr_begunLength 13 = .ok (.if_icmp .ge 15, 3) := by decide +kernel
theorem d_Gr_begunLength_16 : decode b_Gr_begunLength 16 = .ok (.aload_n 0, 1) := by decide +kernel
theorem d_Gr_begunLength_17 : decode b_Gr_begunLength 17 = .ok (.getfield 18, 3) := by decide +kernel
theorem d_Gr_begunLength_20 : decode b_Gr_begunLength 20 = .ok (.aload_n 0, 1) := by decide +kernel
theorem d_Gr_begunLength_21 : decode b_Gr_begunLength 21 = .ok (.getfield 37, 3) := by decide +kernel
theorem d_Gr_begunLength_24 : decode b_Gr_begunLength 24 = .ok (.iaload, 1) := by decide +kernel
theorem d_Gr_begunLength_25 : decode b_Gr_begunLength 25 = .ok (.goto 4, 3) := by decide +kernel
theorem d_Gr_begunLength_28 : decode b_Gr_begunLength 28 = .ok (.iconst 0, 1) := by decide +kernel
theorem d_Gr_begunLength_29 : decode b_Gr_begunLength 29 = .ok (.ireturn, 1) := by decide +kernel
theorem fl_Gr_57 : Cond.fieldLink R_Gr 57 "RuleTrees$Grammar" "begun" "Z" ∈ TB := tb_of 94 (by decide +kernel) (by decide +kernel)
abbrev rm_Gr_begunLength : Room := { frames := 0, cells := 0, slots := 0, locals := 0 }
def f_Gr_begunLength_0 (s_self : Nat → Nat → Int32) : Option ((Int32)) :=
  if (s_self 0 3) = 0 then
    some (0)
  else
    if 30 ≤ (s_self 0 2) then
      some (0)
    else
      ck (s_self 0 2) 30 <|
      some (s_self 3 (Int32.toNatClampNeg (s_self 0 2)))
set_option maxHeartbeats 4000000 in
set_option maxRecDepth 100000 in
theorem t_Gr_begunLength_0 {p : Program} {l : Launch} {e : Env} {s : State} {m : MethodId} {args : Array Value} {below : List Frame} {meth : Method} {c : Code} {A : Nat → Prop} {D : va_G} {K : Nat → ClassId} (a_self : Nat → Nat) (X : gx p s m args c b_Gr_begunLength 1 R_Gr w_Gr_begunLength D classes (tyK K) A) (hr : meth.sig.returnType = some .int) (hlk : meth.locks = false) (r : Int32) (s_self : Nat → Nat → Int32) (h : f_Gr_begunLength_0 s_self = some r) : Gd p l e rm_Gr_begunLength s m args below meth c 0 0 (MQ below (sq D classes (tyK K) (some (.int r)) [wd_Gr K a_self s_self] A) args s 0 0 A) D classes A 1 0 [wd_Gr K a_self s_self] [(0, .ref (a_self 0))] [] := by
  unfold f_Gr_begunLength_0 at h
  refine gd_aload_n X d_Gr_begunLength_0 0 rfl ?_
  refine gd_get X (ci := 1) (C := R_Gr) (T := F_Gr) (N := 12) (v := .int (s_self 0 3)) 0 0 rfl rfl rfl (in_Gr _) 3 (by decide) (List.mem_cons_of_mem _ fl_Gr_57) rfl rfl d_Gr_begunLength_1 ?_
  refine gd_if_eq X (tgt := 28) d_Gr_begunLength_4 (by decide) (fun c_1 => ?_) (fun c_1 => ?_)
  · replace h := it_p c_1 h
    refine gd_iconst X (v := 0) d_Gr_begunLength_28 (by decide) ?_
    cases h
    exact gd_iret X hr hlk d_Gr_begunLength_29
  · replace h := it_n c_1 h
    refine gd_aload_n X d_Gr_begunLength_7 0 rfl ?_
    refine gd_get X (ci := 1) (C := R_Gr) (T := F_Gr) (N := 12) (v := .int (s_self 0 2)) 0 0 rfl rfl rfl (in_Gr _) 2 (by decide) (List.mem_cons_of_mem _ fl_Gr_37) rfl rfl d_Gr_begunLength_8 ?_
    refine gd_bipush X (v := 30) d_Gr_begunLength_11 (by decide) ?_
    refine gd_icmp_ge X (tgt := 28) d_Gr_begunLength_13 (by decide) (fun c_2 => ?_) (fun c_2 => ?_)
    · replace h := it_p c_2 h
      refine gd_iconst X (v := 0) d_Gr_begunLength_28 (by decide) ?_
      cases h
      exact gd_iret X hr hlk d_Gr_begunLength_29
    · replace h := it_n c_2 h
      refine gd_aload_n X d_Gr_begunLength_16 0 rfl ?_
      refine gd_get X (ci := 1) (C := R_Gr) (T := F_Gr) (N := 12) (v := .ref (a_self 3)) 0 0 rfl rfl rfl (in_Gr _) 7 (by decide) (List.mem_cons_of_mem _ fl_Gr_18) rfl rfl d_Gr_begunLength_17 ?_
      refine gd_aload_n X d_Gr_begunLength_20 0 rfl ?_
      refine gd_get X (ci := 1) (C := R_Gr) (T := F_Gr) (N := 12) (v := .int (s_self 0 2)) 0 0 rfl rfl rfl (in_Gr _) 2 (by decide) (List.mem_cons_of_mem _ fl_Gr_37) rfl rfl d_Gr_begunLength_21 ?_
      obtain ⟨hi_3, h⟩ := ck_e h
      refine gd_iald X 0 3 0 rfl rfl rfl hi_3 d_Gr_begunLength_24 ?_
      refine gd_goto X (tgt := 29) d_Gr_begunLength_25 (by decide) ?_
      cases h
      exact gd_iret X hr hlk d_Gr_begunLength_29
def m_Gr_begunLength (s_self : Nat → Nat → Int32) : Option ((Int32)) := f_Gr_begunLength_0 s_self
set_option maxHeartbeats 4000000 in
set_option maxRecDepth 100000 in
theorem c_Gr_begunLength (l : Launch) (D : va_G) (K : Nat → ClassId) (a_self : Nat → Nat) (s_self : Nat → Nat → Int32) (r : Int32) (h : m_Gr_begunLength s_self = some r) : SMet l y_Gr_begunLength w_Gr_begunLength rm_Gr_begunLength D classes (tyK K) [.ref (a_self 0)] (some (.int r)) [wd_Gr K a_self s_self] [wd_Gr K a_self s_self] := by
  refine sm_of R_Gr (by decide) rfl rfl (Nat.le_of_ble_eq_true rfl) ?_
  intro p e s m below meth c A X hr hlk
  refine gd_loc (lv' := [(0, .ref (a_self 0))]) [0] rfl ?_
  exact t_Gr_begunLength_0 a_self X hr hlk r s_self h
abbrev b_Gr_addSort : ByteArray := prog_3_method_14_code
def y_Gr_addSort : MethodName := ⟨R_Gr, "addSort", "()I"⟩
def w_Gr_addSort : List Cond := .code y_Gr_addSort b_Gr_addSort 1 (some .int) :: TB
theorem k_Gr_addSort : Cond.code y_Gr_addSort b_Gr_addSort 1 (some .int) ∈ TB := tb_of 296 (by decide +kernel) (by decide +kernel)
theorem d_Gr_addSort_0 : decode b_Gr_addSort 0 = .ok (.aload_n 0, 1) := by decide +kernel
theorem d_Gr_addSort_1 : decode b_Gr_addSort 1 = .ok (.getfield 33, 3) := by decide +kernel
theorem d_Gr_addSort_4 : decode b_Gr_addSort 4 = .ok (.bipush 6, 2) := by decide +kernel
theorem d_Gr_addSort_6 : decode b_Gr_addSort 6 = .ok (.if_icmp .lt 5, 3) := by decide +kernel
theorem d_Gr_addSort_9 : decode b_Gr_addSort 9 = .ok (.iconst (-1), 1) := by decide +kernel
theorem d_Gr_addSort_10 : decode b_Gr_addSort 10 = .ok (.ireturn, 1) := by decide +kernel
theorem d_Gr_addSort_11 : decode b_Gr_addSort 11 = .ok (.aload_n 0, 1) := by decide +kernel
theorem d_Gr_addSort_12 : decode b_Gr_addSort 12 = .ok (.dup, 1) := by decide +kernel
theorem d_Gr_addSort_13 : decode b_Gr_addSort 13 = .ok (.getfield 33, 3) := by decide +kernel
theorem d_Gr_addSort_16 : decode b_Gr_addSort 16 = .ok (.iconst 1, 1) := by decide +kernel
theorem d_Gr_addSort_17 : decode b_Gr_addSort 17 = .ok (.iadd, 1) := by decide +kernel
theorem d_Gr_addSort_18 : decode b_Gr_addSort 18 = .ok (.putfield 33, 3) := by decide +kernel
theorem d_Gr_addSort_21 : decode b_Gr_addSort 21 = .ok (.aload_n 0, 1) := by decide +kernel
theorem d_Gr_addSort_22 : decode b_Gr_addSort 22 = .ok (.getfield 33, 3) := by decide +kernel
theorem d_Gr_addSort_25 : decode b_Gr_addSort 25 = .ok (.iconst 1, 1) := by decide +kernel
theorem d_Gr_addSort_26 : decode b_Gr_addSort 26 = .ok (.isub, 1) := by decide +kernel
theorem d_Gr_addSort_27 : decode b_Gr_addSort 27 = .ok (.ireturn, 1) := by decide +kernel
abbrev rm_Gr_addSort : Room := { frames := 0, cells := 0, slots := 0, locals := 0 }
def f_Gr_addSort_0 (s_self : Nat → Nat → Int32) : Option ((Int32) × (Nat → Nat → Int32)) :=
  if (s_self 0 0) < 6 then
    nm (st2 s_self 0 0 ((s_self 0 0) + 1)) fun s_self_2 =>
    some (((s_self_2 0 0) - 1), s_self_2)
  else
    some (((-1)), s_self)
set_option maxHeartbeats 4000000 in
set_option maxRecDepth 100000 in
theorem t_Gr_addSort_0 {p : Program} {l : Launch} {e : Env} {s : State} {m : MethodId} {args : Array Value} {below : List Frame} {meth : Method} {c : Code} {A : Nat → Prop} {D : va_G} {K : Nat → ClassId} (a_self : Nat → Nat) (X : gx p s m args c b_Gr_addSort 1 R_Gr w_Gr_addSort D classes (tyK K) A) (hr : meth.sig.returnType = some .int) (hlk : meth.locks = false) (r : Int32) (f_self : Nat → Nat → Int32) (s_self : Nat → Nat → Int32) (h : f_Gr_addSort_0 s_self = some (r, f_self)) : Gd p l e rm_Gr_addSort s m args below meth c 0 0 (MQ below (sq D classes (tyK K) (some (.int r)) [wd_Gr K a_self f_self] A) args s 0 0 A) D classes A 1 0 [wd_Gr K a_self s_self] [(0, .ref (a_self 0))] [] := by
  unfold f_Gr_addSort_0 at h
  refine gd_aload_n X d_Gr_addSort_0 0 rfl ?_
  refine gd_get X (ci := 1) (C := R_Gr) (T := F_Gr) (N := 12) (v := .int (s_self 0 0)) 0 0 rfl rfl rfl (in_Gr _) 0 (by decide) (List.mem_cons_of_mem _ fl_Gr_33) rfl rfl d_Gr_addSort_1 ?_
  refine gd_bipush X (v := 6) d_Gr_addSort_4 (by decide) ?_
  refine gd_icmp_lt X (tgt := 11) d_Gr_addSort_6 (by decide) (fun c_1 => ?_) (fun c_1 => ?_)
  · replace h := it_p c_1 h
    refine gd_aload_n X d_Gr_addSort_11 0 rfl ?_
    refine gd_dup X d_Gr_addSort_12 rfl ?_
    refine gd_get X (ci := 1) (C := R_Gr) (T := F_Gr) (N := 12) (v := .int (s_self 0 0)) 0 0 rfl rfl rfl (in_Gr _) 0 (by decide) (List.mem_cons_of_mem _ fl_Gr_33) rfl rfl d_Gr_addSort_13 ?_
    refine gd_iconst X (v := 1) d_Gr_addSort_16 (by decide) ?_
    refine gd_iadd X d_Gr_addSort_17 ?_
    obtain ⟨s_self_2, es_self_2, h⟩ := nm_e' h
    refine gd_put X (ci := 1) (C := R_Gr) (T := F_Gr) (N := 12) (ty := .int) (w' := [wd_Gr K a_self s_self_2]) 0 0 rfl rfl rfl (in_Gr _) t_Gr t_Gr_ok n_Gr 0 (by decide) (List.mem_cons_of_mem _ fl_Gr_33) rfl rfl (by decide +kernel) rfl rfl (Nat.le_of_ble_eq_true rfl) d_Gr_addSort_18 (by rw [es_self_2]; rfl) ?_
    refine gd_aload_n X d_Gr_addSort_21 0 rfl ?_
    refine gd_get X (ci := 1) (C := R_Gr) (T := F_Gr) (N := 12) (v := .int (s_self_2 0 0)) 0 0 rfl rfl rfl (in_Gr _) 0 (by decide) (List.mem_cons_of_mem _ fl_Gr_33) rfl rfl d_Gr_addSort_22 ?_
    refine gd_iconst X (v := 1) d_Gr_addSort_25 (by decide) ?_
    refine gd_isub X d_Gr_addSort_26 ?_
    cases h
    exact gd_iret X hr hlk d_Gr_addSort_27
  · replace h := it_n c_1 h
    refine gd_iconst X (v := (-1)) d_Gr_addSort_9 (by decide) ?_
    cases h
    exact gd_iret X hr hlk d_Gr_addSort_10
def m_Gr_addSort (s_self : Nat → Nat → Int32) : Option ((Int32) × (Nat → Nat → Int32)) := f_Gr_addSort_0 s_self
set_option maxHeartbeats 4000000 in
set_option maxRecDepth 100000 in
theorem c_Gr_addSort (l : Launch) (D : va_G) (K : Nat → ClassId) (a_self : Nat → Nat) (s_self : Nat → Nat → Int32) (r : Int32) (f_self : Nat → Nat → Int32) (h : m_Gr_addSort s_self = some (r, f_self)) : SMet l y_Gr_addSort w_Gr_addSort rm_Gr_addSort D classes (tyK K) [.ref (a_self 0)] (some (.int r)) [wd_Gr K a_self s_self] [wd_Gr K a_self f_self] := by
  refine sm_of R_Gr (by decide) rfl rfl (Nat.le_of_ble_eq_true rfl) ?_
  intro p e s m below meth c A X hr hlk
  refine gd_loc (lv' := [(0, .ref (a_self 0))]) [0] rfl ?_
  exact t_Gr_addSort_0 a_self X hr hlk r f_self s_self h
