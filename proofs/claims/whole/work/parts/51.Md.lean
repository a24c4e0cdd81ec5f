abbrev b_Md_about : ByteArray := prog_10_method_48_code
def y_Md_about : MethodName := ⟨R_Md, "about", "(II)I"⟩
def w_Md_about : List Cond := .code y_Md_about b_Md_about 3 (some .int) :: TB
theorem k_Md_about : Cond.code y_Md_about b_Md_about 3 (some .int) ∈ TB := tb_of 1014 (by decide +kernel) (by decide +kernel)
theorem d_Md_about_0 : decode b_Md_about 0 = .ok (.aload_n 0, 1) := by decide +kernel
theorem d_Md_about_1 : decode b_Md_about 1 = .ok (.iconst 0, 1) := by decide +kernel
theorem d_Md_about_2 : decode b_Md_about 2 = .ok (.putfield 86, 3) := by decide +kernel
theorem d_Md_about_5 : decode b_Md_about 5 = .ok (.iload_n 1, 1) := by decide +kernel
theorem d_Md_about_6 : decode b_Md_about 6 = .ok (.ifCond .lt 11, 3) := by decide +kernel
theorem d_Md_about_9 : decode b_Md_about 9 = .ok (.iload_n 1, 1) := by decide +kernel
theorem d_Md_about_10 : decode b_Md_about 10 = .ok (.aload_n 0, 1) := by decide +kernel
theorem d_Md_about_11 : decode b_Md_about 11 = .ok (.getfield 103, 3) := by decide +kernel
theorem d_Md_about_14 : decode b_Md_about 14 = .ok (.if_icmp .lt 5, 3) := by decide +kernel
theorem d_Md_about_17 : decode b_Md_about 17 = .ok (.iconst (-1), 1) := by decide +kernel
theorem d_Md_about_18 : decode b_Md_about 18 = .ok (.ireturn, 1) := by decide +kernel
theorem d_Md_about_19 : decode b_Md_about 19 = .ok (.iload_n 2, 1) := by decide +kernel
theorem d_Md_about_20 : decode b_Md_about 20 = .ok (.ifCond .ne 12, 3) := by decide +kernel
theorem d_Md_about_23 : decode b_Md_about 23 = .ok (.aload_n 0, 1) := by decide +kernel
theorem d_Md_about_24 : decode b_Md_about 24 = .ok (.getfield 13, 3) := by decide +kernel
theorem d_Md_about_27 : decode b_Md_about 27 = .ok (.iload_n 1, 1) := by decide +kernel
theorem d_Md_about_28 : decode b_Md_about 28 = .ok (.iaload, 1) := by decide +kernel
theorem d_Md_about_29 : decode b_Md_about 29 = .ok (.goto 31, 3) := by decide +kernel
theorem d_Md_about_32 : decode b_Md_about 32 = .ok (.iload_n 2, 1) := by decide +kernel
theorem d_Md_about_33 : decode b_Md_about 33 = .ok (.iconst 1, 1) := by decide +kernel
theorem d_Md_about_34 : decode b_Md_about 34 = .ok (.if_icmp .ne 12, 3) := by decide +kernel
theorem d_Md_about_37 : decode b_Md_about 37 = .ok (.aload_n 0, 1) := by decide +kernel
theorem d_Md_about_38 : decode b_Md_about 38 = .ok (.getfield 16, 3) := by decide +kernel
theorem d_Md_about_41 : decode b_Md_about 41 = .ok (.iload_n 1, 1) := by decide +kernel
theorem d_Md_about_42 : decode b_Md_about 42 = .ok (.iaload, 1) := by decide +kernel
theorem d_Md_about_43 : decode b_Md_about 43 = .ok (.goto 17, 3) := by decide +kernel
theorem d_Md_about_46 : decode b_Md_about 46 = .ok (.iload_n 2, 1) := by decide +kernel
theorem d_Md_about_47 : decode b_Md_about 47 = .ok (.iconst 2, 1) := by decide +kernel
theorem d_Md_about_48 : decode b_Md_about 48 = .ok (.if_icmp .ne 11, 3) := by decide +kernel
theorem d_Md_about_51 : decode b_Md_about 51 = .ok (.aload_n 0, 1) := by decide +kernel
theorem d_Md_about_52 : decode b_Md_about 52 = .ok (.iload_n 1, 1) := by decide +kernel
theorem d_Md_about_53 : decode b_Md_about 53 = .ok (.invokevirtual 213, 3) := by decide +kernel
theorem d_Md_about_56 : decode b_Md_about 56 = .ok (.goto 4, 3) := by decide +kernel
theorem d_Md_about_59 : decode b_Md_about 59 = .ok (.iconst (-1), 1) := by decide +kernel
theorem d_Md_about_60 : decode b_Md_about 60 = .ok (.ireturn, 1) := by decide +kernel
abbrev rm_Md_about : Room := { frames := 3, cells := 0, slots := 0, locals := 72 }
def f_Md_about_0 (N : Nat) (s_self : Nat → Nat → Int32) (v1 v2 : Int32) : Option ((Int32) × (Nat → Nat → Int32)) :=
  nm (st2 s_self 0 0 0) fun s_self_1 =>
  if v1 < 0 then
    some (((-1)), s_self_1)
  else
    if v1 < (s_self_1 0 4) then
      if v2 = 0 then
        ck v1 31 <|
        some ((s_self_1 2 (Int32.toNatClampNeg v1)), s_self_1)
      else
        if v2 = 1 then
          ck v1 31 <|
          some ((s_self_1 3 (Int32.toNatClampNeg v1)), s_self_1)
        else
          if v2 = 2 then
            bd1 (m_Md_differentIn N s_self_1 v1) fun r_7 =>
            some ((r_7), s_self_1)
          else
            some (((-1)), s_self_1)
    else
      some (((-1)), s_self_1)
set_option maxHeartbeats 4000000 in
set_option maxRecDepth 100000 in
theorem t_Md_about_0 {p : Program} {l : Launch} {e : Env} {s : State} {m : MethodId} {args : Array Value} {below : List Frame} {meth : Method} {c : Code} {A : Nat → Prop} {D : va_G} {K : Nat → ClassId} (a_self a_least : Nat → Nat) (X : gx p s m args c b_Md_about 3 R_Md w_Md_about D classes (tyK K) A) (hr : meth.sig.returnType = some .int) (hlk : meth.locks = false) (N : Nat) (r : Int32) (f_self : Nat → Nat → Int32) (s_self : Nat → Nat → Int32) (v1 v2 : Int32) (h : f_Md_about_0 N s_self v1 v2 = some (r, f_self)) : Gd p l e rm_Md_about s m args below meth c 0 0 (MQ below (sq D classes (tyK K) (some (.int r)) [wd_Md K a_self (a_least 0) f_self] A) args s 0 0 A) D classes A 3 0 [wd_Md K a_self (a_least 0) s_self] [(0, .ref (a_self 0)), (1, .int v1), (2, .int v2)] [] := by
  unfold f_Md_about_0 at h
  refine gd_aload_n X d_Md_about_0 0 rfl ?_
  refine gd_iconst X (v := 0) d_Md_about_1 (by decide) ?_
  obtain ⟨s_self_1, es_self_1, h⟩ := nm_e' h
  refine gd_put X (ci := 7) (C := R_Md) (T := F_Md) (N := 36) (ty := .int) (w' := [wd_Md K a_self (a_least 0) s_self_1]) 0 0 rfl rfl rfl (in_Md _) t_Md t_Md_ok n_Md 0 (by decide) (List.mem_cons_of_mem _ fl_Md_86) rfl rfl (by decide +kernel) rfl rfl (Nat.le_of_ble_eq_true rfl) d_Md_about_2 (by rw [es_self_1]; rfl) ?_
  refine gd_iload_n X d_Md_about_5 1 rfl ?_
  refine gd_if_lt X (tgt := 17) d_Md_about_6 (by decide) (fun c_2 => ?_) (fun c_2 => ?_)
  · replace h := it_p c_2 h
    refine gd_iconst X (v := (-1)) d_Md_about_17 (by decide) ?_
    cases h
    exact gd_iret X hr hlk d_Md_about_18
  · replace h := it_n c_2 h
    refine gd_iload_n X d_Md_about_9 1 rfl ?_
    refine gd_aload_n X d_Md_about_10 0 rfl ?_
    refine gd_get X (ci := 7) (C := R_Md) (T := F_Md) (N := 36) (v := .int (s_self_1 0 4)) 0 0 rfl rfl rfl (in_Md _) 4 (by decide) (List.mem_cons_of_mem _ fl_Md_103) rfl rfl d_Md_about_11 ?_
    refine gd_icmp_lt X (tgt := 19) d_Md_about_14 (by decide) (fun c_3 => ?_) (fun c_3 => ?_)
    · replace h := it_p c_3 h
      refine gd_iload_n X d_Md_about_19 2 rfl ?_
      refine gd_if_ne X (tgt := 32) d_Md_about_20 (by decide) (fun c_4 => ?_) (fun c_4 => ?_)
      · replace h := it_n c_4 h
        refine gd_iload_n X d_Md_about_32 2 rfl ?_
        refine gd_iconst X (v := 1) d_Md_about_33 (by decide) ?_
        refine gd_icmp_ne X (tgt := 46) d_Md_about_34 (by decide) (fun c_5 => ?_) (fun c_5 => ?_)
        · replace h := it_n c_5 h
          refine gd_iload_n X d_Md_about_46 2 rfl ?_
          refine gd_iconst X (v := 2) d_Md_about_47 (by decide) ?_
          refine gd_icmp_ne X (tgt := 59) d_Md_about_48 (by decide) (fun c_6 => ?_) (fun c_6 => ?_)
          · replace h := it_n c_6 h
            refine gd_iconst X (v := (-1)) d_Md_about_59 (by decide) ?_
            cases h
            exact gd_iret X hr hlk d_Md_about_60
          · replace h := it_p c_6 h
            refine gd_aload_n X d_Md_about_51 0 rfl ?_
            refine gd_iload_n X d_Md_about_52 1 rfl ?_
            obtain ⟨r_7, hc_8, h⟩ := bd1_e h
            refine gd_fI X (gd_V X (As := [.int v1]) (rest := []) (c_Md_differentIn l D K a_self a_least N s_self_1 v1 r_7 hc_8) 1 (gi_V ml_Md_213 u_Md_differentIn) rfl ⟨rfl, rfl⟩ (by decide +kernel) ⟨by decide, by decide⟩ (ci := 7) rfl rfl rfl rfl rfl rfl (Nat.le_of_ble_eq_true rfl) ⟨Nat.zero_le _, Nat.zero_le _⟩ d_Md_about_53) ?_
            refine gd_goto X (tgt := 60) d_Md_about_56 (by decide) ?_
            cases h
            exact gd_iret X hr hlk d_Md_about_60
        · replace h := it_p c_5 h
          refine gd_aload_n X d_Md_about_37 0 rfl ?_
          refine gd_get X (ci := 7) (C := R_Md) (T := F_Md) (N := 36) (v := .ref (a_self 3)) 0 0 rfl rfl rfl (in_Md _) 7 (by decide) (List.mem_cons_of_mem _ fl_Md_16) rfl rfl d_Md_about_38 ?_
          refine gd_iload_n X d_Md_about_41 1 rfl ?_
          obtain ⟨hi_9, h⟩ := ck_e h
          refine gd_iald X 0 3 0 rfl rfl rfl hi_9 d_Md_about_42 ?_
          refine gd_goto X (tgt := 60) d_Md_about_43 (by decide) ?_
          cases h
          exact gd_iret X hr hlk d_Md_about_60
      · replace h := it_p c_4 h
        refine gd_aload_n X d_Md_about_23 0 rfl ?_
        refine gd_get X (ci := 7) (C := R_Md) (T := F_Md) (N := 36) (v := .ref (a_self 2)) 0 0 rfl rfl rfl (in_Md _) 6 (by decide) (List.mem_cons_of_mem _ fl_Md_13) rfl rfl d_Md_about_24 ?_
        refine gd_iload_n X d_Md_about_27 1 rfl ?_
        obtain ⟨hi_10, h⟩ := ck_e h
        refine gd_iald X 0 2 0 rfl rfl rfl hi_10 d_Md_about_28 ?_
        refine gd_goto X (tgt := 60) d_Md_about_29 (by decide) ?_
        cases h
        exact gd_iret X hr hlk d_Md_about_60
    · replace h := it_n c_3 h
      refine gd_iconst X (v := (-1)) d_Md_about_17 (by decide) ?_
      cases h
      exact gd_iret X hr hlk d_Md_about_18
def m_Md_about (N : Nat) (s_self : Nat → Nat → Int32) (v1 v2 : Int32) : Option ((Int32) × (Nat → Nat → Int32)) := f_Md_about_0 N s_self v1 v2
set_option maxHeartbeats 4000000 in
set_option maxRecDepth 100000 in
theorem c_Md_about (l : Launch) (D : va_G) (K : Nat → ClassId) (a_self a_least : Nat → Nat) (N : Nat) (s_self : Nat → Nat → Int32) (v1 v2 : Int32) (r : Int32) (f_self : Nat → Nat → Int32) (h : m_Md_about N s_self v1 v2 = some (r, f_self)) : SMet l y_Md_about w_Md_about rm_Md_about D classes (tyK K) [.ref (a_self 0), .int v1, .int v2] (some (.int r)) [wd_Md K a_self (a_least 0) s_self] [wd_Md K a_self (a_least 0) f_self] := by
  refine sm_of R_Md (by decide) rfl rfl (Nat.le_of_ble_eq_true rfl) ?_
  intro p e s m below meth c A X hr hlk
  refine gd_loc (lv' := [(0, .ref (a_self 0)), (1, .int v1), (2, .int v2)]) [0, 1, 2] rfl ?_
  exact t_Md_about_0 a_self a_least X hr hlk N r f_self s_self v1 v2 h
abbrev b_Md_symbol : ByteArray := prog_10_method_49_code
def y_Md_symbol : MethodName := ⟨R_Md, "symbol", "(II)I"⟩
def w_Md_symbol : List Cond := .code y_Md_symbol b_Md_symbol 3 (some .int) :: TB
theorem k_Md_symbol : Cond.code y_Md_symbol b_Md_symbol 3 (some .int) ∈ TB := tb_of 1018 (by decide +kernel) (by decide +kernel)
theorem d_Md_symbol_0 : decode b_Md_symbol 0 = .ok (.aload_n 0, 1) := by decide +kernel
theorem d_Md_symbol_1 : decode b_Md_symbol 1 = .ok (.iconst 0, 1) := by decide +kernel
theorem d_Md_symbol_2 : decode b_Md_symbol 2 = .ok (.putfield 86, 3) := by decide +kernel
theorem d_Md_symbol_5 : decode b_Md_symbol 5 = .ok (.iload_n 1, 1) := by decide +kernel
theorem d_Md_symbol_6 : decode b_Md_symbol 6 = .ok (.ifCond .lt 39, 3) := by decide +kernel
theorem d_Md_symbol_9 : decode b_Md_symbol 9 = .ok (.iload_n 1, 1) := by decide +kernel
theorem d_Md_symbol_10 : decode b_Md_symbol 10 = .ok (.aload_n 0, 1) := by decide +kernel
theorem d_Md_symbol_11 : decode b_Md_symbol 11 = .ok (.getfield 103, 3) := by decide +kernel
theorem d_Md_symbol_14 : decode b_Md_symbol 14 = .ok (.if_icmp .ge 31, 3) := by decide +kernel
theorem d_Md_symbol_17 : decode b_Md_symbol 17 = .ok (.iload_n 2, 1) := by decide +kernel
theorem d_Md_symbol_18 : decode b_Md_symbol 18 = .ok (.ifCond .lt 27, 3) := by decide +kernel
theorem d_Md_symbol_21 : decode b_Md_symbol 21 = .ok (.iload_n 2, 1) := by decide +kernel
theorem d_Md_symbol_22 : decode b_Md_symbol 22 = .ok (.aload_n 0, 1) := by decide +kernel
theorem d_Md_symbol_23 : decode b_Md_symbol 23 = .ok (.getfield 16, 3) := by decide +kernel
theorem d_Md_symbol_26 : decode b_Md_symbol 26 = .ok (.iload_n 1, 1) := by decide +kernel
theorem d_Md_symbol_27 : decode b_Md_symbol 27 = .ok (.iaload, 1) := by decide +kernel
theorem d_Md_symbol_28 : decode b_Md_symbol 28 = .ok (.if_icmp .ge 17, 3) := by decide +kernel
theorem d_Md_symbol_31 : decode b_Md_symbol 31 = .ok (.aload_n 0, 1) := by decide +kernel
theorem d_Md_symbol_32 : decode b_Md_symbol 32 = .ok (.getfield 19, 3) := by decide +kernel
theorem d_Md_symbol_35 : decode b_Md_symbol 35 = .ok (.bipush 8, 2) := by decide +kernel
theorem d_Md_symbol_37 : decode b_Md_symbol 37 = .ok (.iload_n 1, 1) := by decide +kernel
theorem d_Md_symbol_38 : decode b_Md_symbol 38 = .ok (.imul, 1) := by decide +kernel
theorem d_Md_symbol_39 : decode b_Md_symbol 39 = .ok (.iload_n 2, 1) := by decide +kernel
theorem d_Md_symbol_40 : decode b_Md_symbol 40 = .ok (.iadd, 1) := by decide +kernel
theorem d_Md_symbol_41 : decode b_Md_symbol 41 = .ok (.iaload, 1) := by decide +kernel
theorem d_Md_symbol_42 : decode b_Md_symbol 42 = .ok (.goto 6, 3) := by decide +kernel
theorem d_Md_symbol_45 : decode b_Md_symbol 45 = .ok (.sipush (-1000), 3) := by decide +kernel
theorem d_Md_symbol_48 : decode b_Md_symbol 48 = .ok (.ireturn, 1) := by decide +kernel
abbrev rm_Md_symbol : Room := { frames := 0, cells := 0, slots := 0, locals := 0 }
def f_Md_symbol_0 (s_self : Nat → Nat → Int32) (v1 v2 : Int32) : Option ((Int32) × (Nat → Nat → Int32)) :=
  nm (st2 s_self 0 0 0) fun s_self_1 =>
  if v1 < 0 then
    some (((-1000)), s_self_1)
  else
    if (s_self_1 0 4) ≤ v1 then
      some (((-1000)), s_self_1)
    else
      if v2 < 0 then
        some (((-1000)), s_self_1)
      else
        ck v1 31 <|
        if (s_self_1 3 (Int32.toNatClampNeg v1)) ≤ v2 then
          some (((-1000)), s_self_1)
        else
          ck ((8 * v1) + v2) 248 <|
          some ((s_self_1 4 (Int32.toNatClampNeg ((8 * v1) + v2))), s_self_1)
set_option maxHeartbeats 4000000 in
set_option maxRecDepth 100000 in
theorem t_Md_symbol_0 {p : Program} {l : Launch} {e : Env} {s : State} {m : MethodId} {args : Array Value} {below : List Frame} {meth : Method} {c : Code} {A : Nat → Prop} {D : va_G} {K : Nat → ClassId} (a_self a_least : Nat → Nat) (X : gx p s m args c b_Md_symbol 3 R_Md w_Md_symbol D classes (tyK K) A) (hr : meth.sig.returnType = some .int) (hlk : meth.locks = false) (r : Int32) (f_self : Nat → Nat → Int32) (s_self : Nat → Nat → Int32) (v1 v2 : Int32) (h : f_Md_symbol_0 s_self v1 v2 = some (r, f_self)) : Gd p l e rm_Md_symbol s m args below meth c 0 0 (MQ below (sq D classes (tyK K) (some (.int r)) [wd_Md K a_self (a_least 0) f_self] A) args s 0 0 A) D classes A 3 0 [wd_Md K a_self (a_least 0) s_self] [(0, .ref (a_self 0)), (1, .int v1), (2, .int v2)] [] := by
  unfold f_Md_symbol_0 at h
  refine gd_aload_n X d_Md_symbol_0 0 rfl ?_
  refine gd_iconst X (v := 0) d_Md_symbol_1 (by decide) ?_
  obtain ⟨s_self_1, es_self_1, h⟩ := nm_e' h
  refine gd_put X (ci := 7) (C := R_Md) (T := F_Md) (N := 36) (ty := .int) (w' := [wd_Md K a_self (a_least 0) s_self_1]) 0 0 rfl rfl rfl (in_Md _) t_Md t_Md_ok n_Md 0 (by decide) (List.mem_cons_of_mem _ fl_Md_86) rfl rfl (by decide +kernel) rfl rfl (Nat.le_of_ble_eq_true rfl) d_Md_symbol_2 (by rw [es_self_1]; rfl) ?_
  refine gd_iload_n X d_Md_symbol_5 1 rfl ?_
  refine gd_if_lt X (tgt := 45) d_Md_symbol_6 (by decide) (fun c_2 => ?_) (fun c_2 => ?_)
  · replace h := it_p c_2 h
    refine gd_sipush X (v := (-1000)) d_Md_symbol_45 (by decide) ?_
    cases h
    exact gd_iret X hr hlk d_Md_symbol_48
  · replace h := it_n c_2 h
    refine gd_iload_n X d_Md_symbol_9 1 rfl ?_
    refine gd_aload_n X d_Md_symbol_10 0 rfl ?_
    refine gd_get X (ci := 7) (C := R_Md) (T := F_Md) (N := 36) (v := .int (s_self_1 0 4)) 0 0 rfl rfl rfl (in_Md _) 4 (by decide) (List.mem_cons_of_mem _ fl_Md_103) rfl rfl d_Md_symbol_11 ?_
    refine gd_icmp_ge X (tgt := 45) d_Md_symbol_14 (by decide) (fun c_3 => ?_) (fun c_3 => ?_)
    · replace h := it_p c_3 h
      refine gd_sipush X (v := (-1000)) d_Md_symbol_45 (by decide) ?_
      cases h
      exact gd_iret X hr hlk d_Md_symbol_48
    · replace h := it_n c_3 h
      refine gd_iload_n X d_Md_symbol_17 2 rfl ?_
      refine gd_if_lt X (tgt := 45) d_Md_symbol_18 (by decide) (fun c_4 => ?_) (fun c_4 => ?_)
      · replace h := it_p c_4 h
        refine gd_sipush X (v := (-1000)) d_Md_symbol_45 (by decide) ?_
        cases h
        exact gd_iret X hr hlk d_Md_symbol_48
      · replace h := it_n c_4 h
        refine gd_iload_n X d_Md_symbol_21 2 rfl ?_
        refine gd_aload_n X d_Md_symbol_22 0 rfl ?_
        refine gd_get X (ci := 7) (C := R_Md) (T := F_Md) (N := 36) (v := .ref (a_self 3)) 0 0 rfl rfl rfl (in_Md _) 7 (by decide) (List.mem_cons_of_mem _ fl_Md_16) rfl rfl d_Md_symbol_23 ?_
        refine gd_iload_n X d_Md_symbol_26 1 rfl ?_
        obtain ⟨hi_5, h⟩ := ck_e h
        refine gd_iald X 0 3 0 rfl rfl rfl hi_5 d_Md_symbol_27 ?_
        refine gd_icmp_ge X (tgt := 45) d_Md_symbol_28 (by decide) (fun c_6 => ?_) (fun c_6 => ?_)
        · replace h := it_p c_6 h
          refine gd_sipush X (v := (-1000)) d_Md_symbol_45 (by decide) ?_
          cases h
          exact gd_iret X hr hlk d_Md_symbol_48
        · replace h := it_n c_6 h
          refine gd_aload_n X d_Md_symbol_31 0 rfl ?_
          refine gd_get X (ci := 7) (C := R_Md) (T := F_Md) (N := 36) (v := .ref (a_self 4)) 0 0 rfl rfl rfl (in_Md _) 8 (by decide) (List.mem_cons_of_mem _ fl_Md_19) rfl rfl d_Md_symbol_32 ?_
          refine gd_bipush X (v := 8) d_Md_symbol_35 (by decide) ?_
          refine gd_iload_n X d_Md_symbol_37 1 rfl ?_
          refine gd_imul X d_Md_symbol_38 ?_
          refine gd_iload_n X d_Md_symbol_39 2 rfl ?_
          refine gd_iadd X d_Md_symbol_40 ?_
          obtain ⟨hi_7, h⟩ := ck_e h
          refine gd_iald X 0 4 0 rfl rfl rfl hi_7 d_Md_symbol_41 ?_
          refine gd_goto X (tgt := 48) d_Md_symbol_42 (by decide) ?_
          cases h
          exact gd_iret X hr hlk d_Md_symbol_48
def m_Md_symbol (s_self : Nat → Nat → Int32) (v1 v2 : Int32) : Option ((Int32) × (Nat → Nat → Int32)) := f_Md_symbol_0 s_self v1 v2
set_option maxHeartbeats 4000000 in
set_option maxRecDepth 100000 in
theorem c_Md_symbol (l : Launch) (D : va_G) (K : Nat → ClassId) (a_self a_least : Nat → Nat) (s_self : Nat → Nat → Int32) (v1 v2 : Int32) (r : Int32) (f_self : Nat → Nat → Int32) (h : m_Md_symbol s_self v1 v2 = some (r, f_self)) : SMet l y_Md_symbol w_Md_symbol rm_Md_symbol D classes (tyK K) [.ref (a_self 0), .int v1, .int v2] (some (.int r)) [wd_Md K a_self (a_least 0) s_self] [wd_Md K a_self (a_least 0) f_self] := by
  refine sm_of R_Md (by decide) rfl rfl (Nat.le_of_ble_eq_true rfl) ?_
  intro p e s m below meth c A X hr hlk
  refine gd_loc (lv' := [(0, .ref (a_self 0)), (1, .int v1), (2, .int v2)]) [0, 1, 2] rfl ?_
  exact t_Md_symbol_0 a_self a_least X hr hlk r f_self s_self v1 v2 h
abbrev b_Md_count : ByteArray := prog_10_method_50_code
def y_Md_count : MethodName := ⟨R_Md, "count", "(I)I"⟩
def w_Md_count : List Cond := .code y_Md_count b_Md_count 2 (some .int) :: TB
theorem k_Md_count : Cond.code y_Md_count b_Md_count 2 (some .int) ∈ TB := tb_of 1022 (by decide +kernel) (by decide +kernel)
theorem d_Md_count_0 : decode b_Md_count 0 = .ok (.aload_n 0, 1) := by decide +kernel
theorem d_Md_count_1 : decode b_Md_count 1 = .ok (.iconst 0, 1) := by decide +kernel
theorem d_Md_count_2 : decode b_Md_count 2 = .ok (.putfield 86, 3) := by decide +kernel
theorem d_Md_count_5 : decode b_Md_count 5 = .ok (.iload_n 1, 1) := by decide +kernel
theorem d_Md_count_6 : decode b_Md_count 6 = .ok (.tableswitch 82 0 5 #[38, 43, 48, 53, 58, 63], 38) := by decide +kernel
theorem d_Md_count_44 : decode b_Md_count 44 = .ok (.aload_n 0, 1) := by decide +kernel
theorem d_Md_count_45 : decode b_Md_count 45 = .ok (.getfield 89, 3) := by decide +kernel
theorem d_Md_count_48 : decode b_Md_count 48 = .ok (.ireturn, 1) := by decide +kernel
theorem d_Md_count_49 : decode b_Md_count 49 = .ok (.aload_n 0, 1) := by decide +kernel
theorem d_Md_count_50 : decode b_Md_count 50 = .ok (.getfield 92, 3) := by decide +kernel
theorem d_Md_count_53 : decode b_Md_count 53 = .ok (.ireturn, 1) := by decide +kernel
theorem d_Md_count_54 : decode b_Md_count 54 = .ok (.aload_n 0, 1) := by decide +kernel
theorem d_Md_count_55 : decode b_Md_count 55 = .ok (.getfield 103, 3) := by decide +kernel
theorem d_Md_count_58 : decode b_Md_count 58 = .ok (.ireturn, 1) := by decide +kernel
theorem d_Md_count_59 : decode b_Md_count 59 = .ok (.aload_n 0, 1) := by decide +kernel
theorem d_Md_count_60 : decode b_Md_count 60 = .ok (.getfield 116, 3) := by decide +kernel
theorem d_Md_count_63 : decode b_Md_count 63 = .ok (.ireturn, 1) := by decide +kernel
theorem d_Md_count_64 : decode b_Md_count 64 = .ok (.aload_n 0, 1) := by decide +kernel
theorem d_Md_count_65 : decode b_Md_count 65 = .ok (.getfield 198, 3) := by decide +kernel
theorem d_Md_count_68 : decode b_Md_count 68 = .ok (.ireturn, 1) := by decide +kernel
theorem d_Md_count_69 : decode b_Md_count 69 = .ok (.aload_n 0, 1) := by decide +kernel
theorem d_Md_count_70 : decode b_Md_count 70 = .ok (.getfield 106, 3) := by decide +kernel
theorem d_Md_count_73 : decode b_Md_count 73 = .ok (.ifCond .eq 13, 3) := by decide +kernel
theorem d_Md_count_76 : decode b_Md_count 76 = .ok (.aload_n 0, 1) := by decide +kernel
theorem d_Md_count_77 : decode b_Md_count 77 = .ok (.getfield 16, 3) := by decide +kernel
theorem d_Md_count_80 : decode b_Md_count 80 = .ok (.bipush 30, 2) := by decide +kernel
theorem d_Md_count_82 : decode b_Md_count 82 = .ok (.iaload, 1) := by decide +kernel
theorem d_Md_count_83 : decode b_Md_count 83 = .ok (.goto 4, 3) := by decide +kernel
theorem d_Md_count_86 : decode b_Md_count 86 = .ok (.iconst 0, 1) := by decide +kernel
theorem d_Md_count_87 : decode b_Md_count 87 = .ok (.ireturn, 1) := by decide +kernel
theorem d_Md_count_88 : decode b_Md_count 88 = .ok (.iconst (-1), 1) := by decide +kernel
theorem d_Md_count_89 : decode b_Md_count 89 = .ok (.ireturn, 1) := by decide +kernel
abbrev rm_Md_count : Room := { frames := 0, cells := 0, slots := 0, locals := 0 }
def f_Md_count_0 (s_self : Nat → Nat → Int32) (v1 : Int32) : Option ((Int32) × (Nat → Nat → Int32)) :=
  nm (st2 s_self 0 0 0) fun s_self_1 =>
  if v1 = 0 then
    some ((s_self_1 0 1), s_self_1)
  else
  if v1 = 1 then
    some ((s_self_1 0 2), s_self_1)
  else
  if v1 = 2 then
    some ((s_self_1 0 4), s_self_1)
  else
  if v1 = 3 then
    some ((s_self_1 0 10), s_self_1)
  else
  if v1 = 4 then
    some ((s_self_1 0 12), s_self_1)
  else
  if v1 = 5 then
    if (s_self_1 0 5) = 0 then
      some ((0), s_self_1)
    else
      ck 30 31 <|
      some ((s_self_1 3 (Int32.toNatClampNeg 30)), s_self_1)
  else
  some (((-1)), s_self_1)
set_option maxHeartbeats 4000000 in
set_option maxRecDepth 100000 in
theorem t_Md_count_0 {p : Program} {l : Launch} {e : Env} {s : State} {m : MethodId} {args : Array Value} {below : List Frame} {meth : Method} {c : Code} {A : Nat → Prop} {D : va_G} {K : Nat → ClassId} (a_self a_least : Nat → Nat) (X : gx p s m args c b_Md_count 2 R_Md w_Md_count D classes (tyK K) A) (hr : meth.sig.returnType = some .int) (hlk : meth.locks = false) (r : Int32) (f_self : Nat → Nat → Int32) (s_self : Nat → Nat → Int32) (v1 : Int32) (h : f_Md_count_0 s_self v1 = some (r, f_self)) : Gd p l e rm_Md_count s m args below meth c 0 0 (MQ below (sq D classes (tyK K) (some (.int r)) [wd_Md K a_self (a_least 0) f_self] A) args s 0 0 A) D classes A 2 0 [wd_Md K a_self (a_least 0) s_self] [(0, .ref (a_self 0)), (1, .int v1)] [] := by
  unfold f_Md_count_0 at h
  refine gd_aload_n X d_Md_count_0 0 rfl ?_
  refine gd_iconst X (v := 0) d_Md_count_1 (by decide) ?_
  obtain ⟨s_self_1, es_self_1, h⟩ := nm_e' h
  refine gd_put X (ci := 7) (C := R_Md) (T := F_Md) (N := 36) (ty := .int) (w' := [wd_Md K a_self (a_least 0) s_self_1]) 0 0 rfl rfl rfl (in_Md _) t_Md t_Md_ok n_Md 0 (by decide) (List.mem_cons_of_mem _ fl_Md_86) rfl rfl (by decide +kernel) rfl rfl (Nat.le_of_ble_eq_true rfl) d_Md_count_2 (by rw [es_self_1]; rfl) ?_
  refine gd_iload_n X d_Md_count_5 1 rfl ?_
  by_cases c_2 : v1 = 0
  · replace h := it_p c_2 h
    refine gd_tabIn X (tgt := 44) (off := 38) d_Md_count_6 (by rw [c_2]; decide) (by rw [c_2]; decide) (by rw [c_2]; decide +kernel) (by decide) ?_
    refine gd_aload_n X d_Md_count_44 0 rfl ?_
    refine gd_get X (ci := 7) (C := R_Md) (T := F_Md) (N := 36) (v := .int (s_self_1 0 1)) 0 0 rfl rfl rfl (in_Md _) 1 (by decide) (List.mem_cons_of_mem _ fl_Md_89) rfl rfl d_Md_count_45 ?_
    cases h
    exact gd_iret X hr hlk d_Md_count_48
  replace h := it_n c_2 h
  by_cases c_3 : v1 = 1
  · replace h := it_p c_3 h
    refine gd_tabIn X (tgt := 49) (off := 43) d_Md_count_6 (by rw [c_3]; decide) (by rw [c_3]; decide) (by rw [c_3]; decide +kernel) (by decide) ?_
    refine gd_aload_n X d_Md_count_49 0 rfl ?_
    refine gd_get X (ci := 7) (C := R_Md) (T := F_Md) (N := 36) (v := .int (s_self_1 0 2)) 0 0 rfl rfl rfl (in_Md _) 2 (by decide) (List.mem_cons_of_mem _ fl_Md_92) rfl rfl d_Md_count_50 ?_
    cases h
    exact gd_iret X hr hlk d_Md_count_53
  replace h := it_n c_3 h
  by_cases c_4 : v1 = 2
  · replace h := it_p c_4 h
    refine gd_tabIn X (tgt := 54) (off := 48) d_Md_count_6 (by rw [c_4]; decide) (by rw [c_4]; decide) (by rw [c_4]; decide +kernel) (by decide) ?_
    refine gd_aload_n X d_Md_count_54 0 rfl ?_
    refine gd_get X (ci := 7) (C := R_Md) (T := F_Md) (N := 36) (v := .int (s_self_1 0 4)) 0 0 rfl rfl rfl (in_Md _) 4 (by decide) (List.mem_cons_of_mem _ fl_Md_103) rfl rfl d_Md_count_55 ?_
    cases h
    exact gd_iret X hr hlk d_Md_count_58
  replace h := it_n c_4 h
  by_cases c_5 : v1 = 3
  · replace h := it_p c_5 h
    refine gd_tabIn X (tgt := 59) (off := 53) d_Md_count_6 (by rw [c_5]; decide) (by rw [c_5]; decide) (by rw [c_5]; decide +kernel) (by decide) ?_
    refine gd_aload_n X d_Md_count_59 0 rfl ?_
    refine gd_get X (ci := 7) (C := R_Md) (T := F_Md) (N := 36) (v := .int (s_self_1 0 10)) 0 0 rfl rfl rfl (in_Md _) 10 (by decide) (List.mem_cons_of_mem _ fl_Md_116) rfl rfl d_Md_count_60 ?_
    cases h
    exact gd_iret X hr hlk d_Md_count_63
  replace h := it_n c_5 h
  by_cases c_6 : v1 = 4
  · replace h := it_p c_6 h
    refine gd_tabIn X (tgt := 64) (off := 58) d_Md_count_6 (by rw [c_6]; decide) (by rw [c_6]; decide) (by rw [c_6]; decide +kernel) (by decide) ?_
    refine gd_aload_n X d_Md_count_64 0 rfl ?_
    refine gd_get X (ci := 7) (C := R_Md) (T := F_Md) (N := 36) (v := .int (s_self_1 0 12)) 0 0 rfl rfl rfl (in_Md _) 12 (by decide) (List.mem_cons_of_mem _ fl_Md_198) rfl rfl d_Md_count_65 ?_
    cases h
    exact gd_iret X hr hlk d_Md_count_68
  replace h := it_n c_6 h
  by_cases c_7 : v1 = 5
  · replace h := it_p c_7 h
    refine gd_tabIn X (tgt := 69) (off := 63) d_Md_count_6 (by rw [c_7]; decide) (by rw [c_7]; decide) (by rw [c_7]; decide +kernel) (by decide) ?_
    refine gd_aload_n X d_Md_count_69 0 rfl ?_
    refine gd_get X (ci := 7) (C := R_Md) (T := F_Md) (N := 36) (v := .int (s_self_1 0 5)) 0 0 rfl rfl rfl (in_Md _) 5 (by decide) (List.mem_cons_of_mem _ fl_Md_106) rfl rfl d_Md_count_70 ?_
    refine gd_if_eq X (tgt := 86) d_Md_count_73 (by decide) (fun c_8 => ?_) (fun c_8 => ?_)
    · replace h := it_p c_8 h
      refine gd_iconst X (v := 0) d_Md_count_86 (by decide) ?_
      cases h
      exact gd_iret X hr hlk d_Md_count_87
    · replace h := it_n c_8 h
      refine gd_aload_n X d_Md_count_76 0 rfl ?_
      refine gd_get X (ci := 7) (C := R_Md) (T := F_Md) (N := 36) (v := .ref (a_self 3)) 0 0 rfl rfl rfl (in_Md _) 7 (by decide) (List.mem_cons_of_mem _ fl_Md_16) rfl rfl d_Md_count_77 ?_
      refine gd_bipush X (v := 30) d_Md_count_80 (by decide) ?_
      obtain ⟨hi_9, h⟩ := ck_e h
      refine gd_iald X 0 3 0 rfl rfl rfl hi_9 d_Md_count_82 ?_
      refine gd_goto X (tgt := 87) d_Md_count_83 (by decide) ?_
      cases h
      exact gd_iret X hr hlk d_Md_count_87
  replace h := it_n c_7 h
  have ho_10 : Int32.toInt v1 < 0 ∨ 5 < Int32.toInt v1 := by
    refine tab_out (fun k h1 h2 ek => ?_)
    have h3 : k = 0 ∨ k = 1 ∨ k = 2 ∨ k = 3 ∨ k = 4 ∨ k = 5 := by omega
    rcases h3 with rfl | rfl | rfl | rfl | rfl | rfl
    · exact c_2 (Int32.toInt_inj.mp (ek.trans (by decide)))
    · exact c_3 (Int32.toInt_inj.mp (ek.trans (by decide)))
    · exact c_4 (Int32.toInt_inj.mp (ek.trans (by decide)))
    · exact c_5 (Int32.toInt_inj.mp (ek.trans (by decide)))
    · exact c_6 (Int32.toInt_inj.mp (ek.trans (by decide)))
    · exact c_7 (Int32.toInt_inj.mp (ek.trans (by decide)))
  refine gd_tabOut X (tgt := 88) d_Md_count_6 ho_10 (by decide) ?_
  refine gd_iconst X (v := (-1)) d_Md_count_88 (by decide) ?_
  cases h
  exact gd_iret X hr hlk d_Md_count_89
def m_Md_count (s_self : Nat → Nat → Int32) (v1 : Int32) : Option ((Int32) × (Nat → Nat → Int32)) := f_Md_count_0 s_self v1
set_option maxHeartbeats 4000000 in
set_option maxRecDepth 100000 in
theorem c_Md_count (l : Launch) (D : va_G) (K : Nat → ClassId) (a_self a_least : Nat → Nat) (s_self : Nat → Nat → Int32) (v1 : Int32) (r : Int32) (f_self : Nat → Nat → Int32) (h : m_Md_count s_self v1 = some (r, f_self)) : SMet l y_Md_count w_Md_count rm_Md_count D classes (tyK K) [.ref (a_self 0), .int v1] (some (.int r)) [wd_Md K a_self (a_least 0) s_self] [wd_Md K a_self (a_least 0) f_self] := by
  refine sm_of R_Md (by decide) rfl rfl (Nat.le_of_ble_eq_true rfl) ?_
  intro p e s m below meth c A X hr hlk
  refine gd_loc (lv' := [(0, .ref (a_self 0)), (1, .int v1)]) [0, 1] rfl ?_
  exact t_Md_count_0 a_self a_least X hr hlk r f_self s_self v1 h
abbrev b_Md_check : ByteArray := prog_10_method_51_code
def y_Md_check : MethodName := ⟨R_Md, "check", "()I"⟩
def w_Md_check : List Cond := .code y_Md_check b_Md_check 1 (some .int) :: TB
theorem k_Md_check : Cond.code y_Md_check b_Md_check 1 (some .int) ∈ TB := tb_of 1026 (by decide +kernel) (by decide +kernel)
theorem d_Md_check_0 : decode b_Md_check 0 = .ok (.aload_n 0, 1) := by decide +kernel
theorem d_Md_check_1 : decode b_Md_check 1 = .ok (.iconst 0, 1) := by decide +kernel
theorem d_Md_check_2 : decode b_Md_check 2 = .ok (.putfield 86, 3) := by decide +kernel
theorem d_Md_check_5 : decode b_Md_check 5 = .ok (.iconst 1, 1) := by decide +kernel
theorem d_Md_check_6 : decode b_Md_check 6 = .ok (.ireturn, 1) := by decide +kernel
abbrev rm_Md_check : Room := { frames := 0, cells := 0, slots := 0, locals := 0 }
def f_Md_check_0 (s_self : Nat → Nat → Int32) : Option ((Int32) × (Nat → Nat → Int32)) :=
  nm (st2 s_self 0 0 0) fun s_self_1 =>
  some ((1), s_self_1)
set_option maxHeartbeats 4000000 in
set_option maxRecDepth 100000 in
theorem t_Md_check_0 {p : Program} {l : Launch} {e : Env} {s : State} {m : MethodId} {args : Array Value} {below : List Frame} {meth : Method} {c : Code} {A : Nat → Prop} {D : va_G} {K : Nat → ClassId} (a_self a_least : Nat → Nat) (X : gx p s m args c b_Md_check 1 R_Md w_Md_check D classes (tyK K) A) (hr : meth.sig.returnType = some .int) (hlk : meth.locks = false) (r : Int32) (f_self : Nat → Nat → Int32) (s_self : Nat → Nat → Int32) (h : f_Md_check_0 s_self = some (r, f_self)) : Gd p l e rm_Md_check s m args below meth c 0 0 (MQ below (sq D classes (tyK K) (some (.int r)) [wd_Md K a_self (a_least 0) f_self] A) args s 0 0 A) D classes A 1 0 [wd_Md K a_self (a_least 0) s_self] [(0, .ref (a_self 0))] [] := by
  unfold f_Md_check_0 at h
  refine gd_aload_n X d_Md_check_0 0 rfl ?_
  refine gd_iconst X (v := 0) d_Md_check_1 (by decide) ?_
  obtain ⟨s_self_1, es_self_1, h⟩ := nm_e' h
  refine gd_put X (ci := 7) (C := R_Md) (T := F_Md) (N := 36) (ty := .int) (w' := [wd_Md K a_self (a_least 0) s_self_1]) 0 0 rfl rfl rfl (in_Md _) t_Md t_Md_ok n_Md 0 (by decide) (List.mem_cons_of_mem _ fl_Md_86) rfl rfl (by decide +kernel) rfl rfl (Nat.le_of_ble_eq_true rfl) d_Md_check_2 (by rw [es_self_1]; rfl) ?_
  refine gd_iconst X (v := 1) d_Md_check_5 (by decide) ?_
  cases h
  exact gd_iret X hr hlk d_Md_check_6
def m_Md_check (s_self : Nat → Nat → Int32) : Option ((Int32) × (Nat → Nat → Int32)) := f_Md_check_0 s_self
set_option maxHeartbeats 4000000 in
set_option maxRecDepth 100000 in
theorem c_Md_check (l : Launch) (D : va_G) (K : Nat → ClassId) (a_self a_least : Nat → Nat) (s_self : Nat → Nat → Int32) (r : Int32) (f_self : Nat → Nat → Int32) (h : m_Md_check s_self = some (r, f_self)) : SMet l y_Md_check w_Md_check rm_Md_check D classes (tyK K) [.ref (a_self 0)] (some (.int r)) [wd_Md K a_self (a_least 0) s_self] [wd_Md K a_self (a_least 0) f_self] := by
  refine sm_of R_Md (by decide) rfl rfl (Nat.le_of_ble_eq_true rfl) ?_
  intro p e s m below meth c A X hr hlk
  refine gd_loc (lv' := [(0, .ref (a_self 0))]) [0] rfl ?_
  exact t_Md_check_0 a_self a_least X hr hlk r f_self s_self h
