abbrev b_Ch_reaches : ByteArray := prog_2_method_12_code
def y_Ch_reaches : MethodName := ⟨R_Ch, "reaches", "(II)Z"⟩
def w_Ch_reaches : List Cond := .code y_Ch_reaches b_Ch_reaches 3 (some .boolean) :: TB
theorem k_Ch_reaches : Cond.code y_Ch_reaches b_Ch_reaches 3 (some .boolean) ∈ TB := tb_of 410 (by decide +kernel) (by decide +kernel)
theorem d_Ch_reaches_0 : decode b_Ch_reaches 0 = .ok (.iload_n 1, 1) := by decide +kernel
theorem d_Ch_reaches_1 : decode b_Ch_reaches 1 = .ok (.ifCond .lt 27, 3) := by decide +kernel
theorem d_Ch_reaches_4 : decode b_Ch_reaches 4 = .ok (.iload_n 1, 1) := by decide +kernel
theorem d_Ch_reaches_5 : decode b_Ch_reaches 5 = .ok (.bipush 6, 2) := by decide +kernel
theorem d_Ch_reaches_7 : decode b_Ch_reaches 7 = .ok (.if_icmp .ge 21, 3) := by decide +kernel
theorem d_Ch_reaches_10 : decode b_Ch_reaches 10 = .ok (.aload_n 0, 1) := by decide +kernel
theorem d_Ch_reaches_11 : decode b_Ch_reaches 11 = .ok (.getfield 32, 3) := by decide +kernel
theorem d_Ch_reaches_14 : decode b_Ch_reaches 14 = .ok (.iload_n 1, 1) := by decide +kernel
theorem d_Ch_reaches_15 : decode b_Ch_reaches 15 = .ok (.iaload, 1) := by decide +kernel
theorem d_Ch_reaches_16 : decode b_Ch_reaches 16 = .ok (.iload_n 2, 1) := by decide +kernel
theorem d_Ch_reaches_17 : decode b_Ch_reaches 17 = .ok (.ishr, 1) := by decide +kernel
theorem d_Ch_reaches_18 : decode b_Ch_reaches 18 = .ok (.iconst 1, 1) := by decide +kernel
theorem d_Ch_reaches_19 : decode b_Ch_reaches 19 = .ok (.iand, 1) := by decide +kernel
theorem d_Ch_reaches_20 : decode b_Ch_reaches 20 = .ok (.iconst 1, 1) := by decide +kernel
theorem d_Ch_reaches_21 : decode b_Ch_reaches 21 = .ok (.if_icmp .ne 7, 3) := by decide +kernel
theorem d_Ch_reaches_24 : decode b_Ch_reaches 24 = .ok (.iconst 1, 1) := by decide +kernel
theorem d_Ch_reaches_25 : decode b_Ch_reaches 25 = .ok (.goto 4, 3) := by decide +kernel
theorem d_Ch_reaches_28 : decode b_Ch_reaches 28 = .ok (.iconst 0, 1) := by decide +kernel
theorem d_Ch_reaches_29 : decode b_Ch_reaches 29 = .ok (.ireturn, 1) := by decide +kernel
theorem fl_Ch_32 : Cond.fieldLink R_Ch 32 "RuleTrees$Chart" "unitReach" "[I" ∈ TB := tb_of 168 (by decide +kernel) (by decide +kernel)
abbrev rm_Ch_reaches : Room := { frames := 0, cells := 0, slots := 0, locals := 0 }
def f_Ch_reaches_0 (s_self : Nat → Nat → Int32) (v1 v2 : Int32) : Option ((Int32)) :=
  if v1 < 0 then
    some (0)
  else
    if 6 ≤ v1 then
      some (0)
    else
      ck v1 6 <|
      if (((s_self 4 (Int32.toNatClampNeg v1)) >>> (v2 &&& 31)) &&& 1) = 1 then
        some (1)
      else
        some (0)
set_option maxHeartbeats 4000000 in
set_option maxRecDepth 100000 in
theorem t_Ch_reaches_0 {p : Program} {l : Launch} {e : Env} {s : State} {m : MethodId} {args : Array Value} {below : List Frame} {meth : Method} {c : Code} {A : Nat → Prop} {D : va_G} {K : Nat → ClassId} (a_self a_grammar a_table : Nat → Nat) (X : gx p s m args c b_Ch_reaches 3 R_Ch w_Ch_reaches D classes (tyK K) A) (hr : meth.sig.returnType = some .boolean) (hlk : meth.locks = false) (r : Int32) (s_self : Nat → Nat → Int32) (v1 v2 : Int32) (h : f_Ch_reaches_0 s_self v1 v2 = some r) : Gd p l e rm_Ch_reaches s m args below meth c 0 0 (MQ below (sq D classes (tyK K) (some (.int r)) [wd_Ch K a_self (a_grammar 0) (a_table 0) s_self] A) args s 0 0 A) D classes A 3 0 [wd_Ch K a_self (a_grammar 0) (a_table 0) s_self] [(0, .ref (a_self 0)), (1, .int v1), (2, .int v2)] [] := by
  unfold f_Ch_reaches_0 at h
  refine gd_iload_n X d_Ch_reaches_0 1 rfl ?_
  refine gd_if_lt X (tgt := 28) d_Ch_reaches_1 (by decide) (fun c_1 => ?_) (fun c_1 => ?_)
  · replace h := it_p c_1 h
    refine gd_iconst X (v := 0) d_Ch_reaches_28 (by decide) ?_
    cases h
    exact gd_zret X hr hlk (by decide) d_Ch_reaches_29
  · replace h := it_n c_1 h
    refine gd_iload_n X d_Ch_reaches_4 1 rfl ?_
    refine gd_bipush X (v := 6) d_Ch_reaches_5 (by decide) ?_
    refine gd_icmp_ge X (tgt := 28) d_Ch_reaches_7 (by decide) (fun c_2 => ?_) (fun c_2 => ?_)
    · replace h := it_p c_2 h
      refine gd_iconst X (v := 0) d_Ch_reaches_28 (by decide) ?_
      cases h
      exact gd_zret X hr hlk (by decide) d_Ch_reaches_29
    · replace h := it_n c_2 h
      refine gd_aload_n X d_Ch_reaches_10 0 rfl ?_
      refine gd_get X (ci := 3) (C := R_Ch) (T := F_Ch) (N := 12) (v := .ref (a_self 4)) 0 0 rfl rfl rfl (in_Ch _) 8 (by decide) (List.mem_cons_of_mem _ fl_Ch_32) rfl rfl d_Ch_reaches_11 ?_
      refine gd_iload_n X d_Ch_reaches_14 1 rfl ?_
      obtain ⟨hi_3, h⟩ := ck_e h
      refine gd_iald X 0 4 0 rfl rfl rfl hi_3 d_Ch_reaches_15 ?_
      refine gd_iload_n X d_Ch_reaches_16 2 rfl ?_
      refine gd_ishr X d_Ch_reaches_17 ?_
      refine gd_iconst X (v := 1) d_Ch_reaches_18 (by decide) ?_
      refine gd_iand X d_Ch_reaches_19 ?_
      refine gd_iconst X (v := 1) d_Ch_reaches_20 (by decide) ?_
      refine gd_icmp_ne X (tgt := 28) d_Ch_reaches_21 (by decide) (fun c_4 => ?_) (fun c_4 => ?_)
      · replace h := it_n c_4 h
        refine gd_iconst X (v := 0) d_Ch_reaches_28 (by decide) ?_
        cases h
        exact gd_zret X hr hlk (by decide) d_Ch_reaches_29
      · replace h := it_p c_4 h
        refine gd_iconst X (v := 1) d_Ch_reaches_24 (by decide) ?_
        refine gd_goto X (tgt := 29) d_Ch_reaches_25 (by decide) ?_
        cases h
        exact gd_zret X hr hlk (by decide) d_Ch_reaches_29
def m_Ch_reaches (s_self : Nat → Nat → Int32) (v1 v2 : Int32) : Option ((Int32)) := f_Ch_reaches_0 s_self v1 v2
set_option maxHeartbeats 4000000 in
set_option maxRecDepth 100000 in
theorem c_Ch_reaches (l : Launch) (D : va_G) (K : Nat → ClassId) (a_self a_grammar a_table : Nat → Nat) (s_self : Nat → Nat → Int32) (v1 v2 : Int32) (r : Int32) (h : m_Ch_reaches s_self v1 v2 = some r) : SMet l y_Ch_reaches w_Ch_reaches rm_Ch_reaches D classes (tyK K) [.ref (a_self 0), .int v1, .int v2] (some (.int r)) [wd_Ch K a_self (a_grammar 0) (a_table 0) s_self] [wd_Ch K a_self (a_grammar 0) (a_table 0) s_self] := by
  refine sm_of R_Ch (by decide) rfl rfl (Nat.le_of_ble_eq_true rfl) ?_
  intro p e s m below meth c A X hr hlk
  refine gd_loc (lv' := [(0, .ref (a_self 0)), (1, .int v1), (2, .int v2)]) [0, 1, 2] rfl ?_
  exact t_Ch_reaches_0 a_self a_grammar a_table X hr hlk r s_self v1 v2 h
abbrev b_Ch_markEndless : ByteArray := prog_2_method_20_code
def y_Ch_markEndless : MethodName := ⟨R_Ch, "markEndless", "(II)V"⟩
def w_Ch_markEndless : List Cond := .code y_Ch_markEndless b_Ch_markEndless 5 none :: TB
theorem k_Ch_markEndless : Cond.code y_Ch_markEndless b_Ch_markEndless 5 none ∈ TB := tb_of 535 (by decide +kernel) (by decide +kernel)
theorem d_Ch_markEndless_0 : decode b_Ch_markEndless 0 = .ok (.iconst 0, 1) := by decide +kernel
theorem d_Ch_markEndless_1 : decode b_Ch_markEndless 1 = .ok (.istore_n 3, 1) := by decide +kernel
theorem d_Ch_markEndless_2 : decode b_Ch_markEndless 2 = .ok (.iload_n 3, 1) := by decide +kernel
theorem d_Ch_markEndless_3 : decode b_Ch_markEndless 3 = .ok (.bipush 6, 2) := by decide +kernel
theorem d_Ch_markEndless_5 : decode b_Ch_markEndless 5 = .ok (.if_icmp .ge 70, 3) := by decide +kernel
theorem d_Ch_markEndless_8 : decode b_Ch_markEndless 8 = .ok (.aload_n 0, 1) := by decide +kernel
theorem d_Ch_markEndless_9 : decode b_Ch_markEndless 9 = .ok (.iload_n 3, 1) := by decide +kernel
theorem d_Ch_markEndless_10 : decode b_Ch_markEndless 10 = .ok (.iload_n 3, 1) := by decide +kernel
theorem d_Ch_markEndless_11 : decode b_Ch_markEndless 11 = .ok (.invokevirtual 106, 3) := by decide +kernel
theorem d_Ch_markEndless_14 : decode b_Ch_markEndless 14 = .ok (.ifCond .eq 55, 3) := by decide +kernel
theorem d_Ch_markEndless_17 : decode b_Ch_markEndless 17 = .ok (.aload_n 0, 1) := by decide +kernel
theorem d_Ch_markEndless_18 : decode b_Ch_markEndless 18 = .ok (.iload_n 3, 1) := by decide +kernel
theorem d_Ch_markEndless_19 : decode b_Ch_markEndless 19 = .ok (.iload_n 1, 1) := by decide +kernel
theorem d_Ch_markEndless_20 : decode b_Ch_markEndless 20 = .ok (.iload_n 2, 1) := by decide +kernel
theorem d_Ch_markEndless_21 : decode b_Ch_markEndless 21 = .ok (.invokevirtual 159, 3) := by decide +kernel
theorem d_Ch_markEndless_24 : decode b_Ch_markEndless 24 = .ok (.ifCond .ne 6, 3) := by decide +kernel
theorem d_Ch_markEndless_27 : decode b_Ch_markEndless 27 = .ok (.goto 42, 3) := by decide +kernel
theorem d_Ch_markEndless_30 : decode b_Ch_markEndless 30 = .ok (.iconst 0, 1) := by decide +kernel
theorem d_Ch_markEndless_31 : decode b_Ch_markEndless 31 = .ok (.istore 4, 2) := by decide +kernel
theorem d_Ch_markEndless_33 : decode b_Ch_markEndless 33 = .ok (.iload 4, 2) := by decide +kernel
theorem d_Ch_markEndless_35 : decode b_Ch_markEndless 35 = .ok (.bipush 6, 2) := by decide +kernel
theorem d_Ch_markEndless_37 : decode b_Ch_markEndless 37 = .ok (.if_icmp .ge 32, 3) := by decide +kernel
theorem d_Ch_markEndless_40 : decode b_Ch_markEndless 40 = .ok (.aload_n 0, 1) := by decide +kernel
theorem d_Ch_markEndless_41 : decode b_Ch_markEndless 41 = .ok (.iload 4, 2) := by decide +kernel
theorem d_Ch_markEndless_43 : decode b_Ch_markEndless 43 = .ok (.iload_n 3, 1) := by decide +kernel
theorem d_Ch_markEndless_44 : decode b_Ch_markEndless 44 = .ok (.invokevirtual 106, 3) := by decide +kernel
theorem d_Ch_markEndless_47 : decode b_Ch_markEndless 47 = .ok (.ifCond .eq 16, 3) := by decide +kernel
theorem d_Ch_markEndless_50 : decode b_Ch_markEndless 50 = .ok (.aload_n 0, 1) := by decide +kernel
theorem d_Ch_markEndless_51 : decode b_Ch_markEndless 51 = .ok (.iload 4, 2) := by decide +kernel
theorem d_Ch_markEndless_53 : decode b_Ch_markEndless 53 = .ok (.iload_n 1, 1) := by decide +kernel
theorem d_Ch_markEndless_54 : decode b_Ch_markEndless 54 = .ok (.iload_n 2, 1) := by decide +kernel
theorem d_Ch_markEndless_55 : decode b_Ch_markEndless 55 = .ok (.invokestatic 44, 3) := by decide +kernel
theorem d_Ch_markEndless_58 : decode b_Ch_markEndless 58 = .ok (.ldc 179, 2) := by decide +kernel
theorem d_Ch_markEndless_60 : decode b_Ch_markEndless 60 = .ok (.invokevirtual 110, 3) := by decide +kernel
theorem d_Ch_markEndless_63 : decode b_Ch_markEndless 63 = .ok (.iinc 4 1, 3) := by decide +kernel
theorem d_Ch_markEndless_66 : decode b_Ch_markEndless 66 = .ok (.goto (-33), 3) := by decide +kernel
theorem d_Ch_markEndless_69 : decode b_Ch_markEndless 69 = .ok (.iinc 3 1, 3) := by decide +kernel
theorem d_Ch_markEndless_72 : decode b_Ch_markEndless 72 = .ok (.goto (-70), 3) := by decide +kernel
theorem d_Ch_markEndless_75 : decode b_Ch_markEndless 75 = .ok (.return_, 1) := by decide +kernel
theorem ml_Ch_106 : Cond.methodLink R_Ch 106 ⟨"RuleTrees$Chart", "reaches", "(II)Z"⟩ ∈ TB := tb_of 407 (by decide +kernel) (by decide +kernel)
theorem u_Ch_reaches : (Cond.instanceMethod y_Ch_reaches ∈ TB ∧ Cond.selects R_Ch y_Ch_reaches y_Ch_reaches ∈ TB) ∧ Cond.initialized R_Ch ∈ TB ∧ Cond.code y_Ch_reaches b_Ch_reaches 3 (some .boolean) ∈ TB := ⟨⟨(tb_of 409 (by decide +kernel) (by decide +kernel)), (tb_of 3 (by decide +kernel) (by decide +kernel))⟩, (tb_of 64 (by decide +kernel) (by decide +kernel)), k_Ch_reaches⟩
theorem kc_Ch_179 : Cond.constant R_Ch 179 1000002 ∈ TB := tb_of 536 (by decide +kernel) (by decide +kernel)
abbrev rm_Ch_markEndless : Room := { frames := 2, cells := 0, slots := 0, locals := 45 }
def f_Ch_markEndless_33 (N : Nat) (kb : (Nat → Nat → Int32) → Int32 → Option ((Nat → Nat → Int32))) (kx69 : (Nat → Nat → Int32) → Option ((Nat → Nat → Int32))) (s_self : Nat → Nat → Int32) (v1 v2 v3 v4 : Int32) : Option ((Nat → Nat → Int32)) :=
  if 6 ≤ v4 then
    kx69 s_self
  else
    bd1 (m_Ch_reaches s_self v4 v3) fun r_2 =>
    if r_2 = 0 then
      nm (v4 + 1) fun v4_5 =>
      kb s_self v4_5
    else
      bd1 (m_Ch_cellOf v4 v1 v2) fun r_6 =>
      bd1 (m_Ch_setWays s_self r_6 1000002) fun s_self_8 =>
      nm (v4 + 1) fun v4_10 =>
      kb s_self_8 v4_10
set_option maxHeartbeats 4000000 in
set_option maxRecDepth 100000 in
theorem t_Ch_markEndless_33 {p : Program} {l : Launch} {e : Env} {s : State} {m : MethodId} {args : Array Value} {below : List Frame} {meth : Method} {c : Code} {A : Nat → Prop} {D : va_G} {K : Nat → ClassId} (a_self a_grammar a_table : Nat → Nat) (X : gx p s m args c b_Ch_markEndless 5 R_Ch w_Ch_markEndless D classes (tyK K) A) (hr : meth.sig.returnType = none) (hlk : meth.locks = false) (N : Nat) (f_self : Nat → Nat → Int32) (s_self : Nat → Nat → Int32) (v1 v2 v3 v4 : Int32) (kb : (Nat → Nat → Int32) → Int32 → Option ((Nat → Nat → Int32))) (hkb : ∀ (s_self : Nat → Nat → Int32) (v4 : Int32), kb s_self v4 = some f_self → Gd p l e rm_Ch_markEndless s m args below meth c 0 0 (MQ below (sq D classes (tyK K) none [wd_Ch K a_self (a_grammar 0) (a_table 0) f_self] A) args s 0 0 A) D classes A 5 33 [wd_Ch K a_self (a_grammar 0) (a_table 0) s_self] [(0, .ref (a_self 0)), (1, .int v1), (2, .int v2), (3, .int v3), (4, .int v4)] []) (kx69 : (Nat → Nat → Int32) → Option ((Nat → Nat → Int32))) (hkx69 : ∀ (s_self : Nat → Nat → Int32), kx69 s_self = some f_self → Gd p l e rm_Ch_markEndless s m args below meth c 0 0 (MQ below (sq D classes (tyK K) none [wd_Ch K a_self (a_grammar 0) (a_table 0) f_self] A) args s 0 0 A) D classes A 5 69 [wd_Ch K a_self (a_grammar 0) (a_table 0) s_self] [(0, .ref (a_self 0)), (1, .int v1), (2, .int v2), (3, .int v3)] []) (h : f_Ch_markEndless_33 N kb kx69 s_self v1 v2 v3 v4 = some f_self) : Gd p l e rm_Ch_markEndless s m args below meth c 0 0 (MQ below (sq D classes (tyK K) none [wd_Ch K a_self (a_grammar 0) (a_table 0) f_self] A) args s 0 0 A) D classes A 5 33 [wd_Ch K a_self (a_grammar 0) (a_table 0) s_self] [(0, .ref (a_self 0)), (1, .int v1), (2, .int v2), (3, .int v3), (4, .int v4)] [] := by
  unfold f_Ch_markEndless_33 at h
  refine gd_iload X d_Ch_markEndless_33 4 rfl ?_
  refine gd_bipush X (v := 6) d_Ch_markEndless_35 (by decide) ?_
  refine gd_icmp_ge X (tgt := 69) d_Ch_markEndless_37 (by decide) (fun c_1 => ?_) (fun c_1 => ?_)
  · replace h := it_p c_1 h
    refine gd_loc (lv' := [(0, .ref (a_self 0)), (1, .int v1), (2, .int v2), (3, .int v3)]) [0, 1, 2, 3] rfl ?_
    exact hkx69 s_self h
  · replace h := it_n c_1 h
    refine gd_aload_n X d_Ch_markEndless_40 0 rfl ?_
    refine gd_iload X d_Ch_markEndless_41 4 rfl ?_
    refine gd_iload_n X d_Ch_markEndless_43 3 rfl ?_
    obtain ⟨r_2, hc_3, h⟩ := bd1_e h
    refine gd_fI X (gd_V X (As := [.int v4, .int v3]) (rest := []) (c_Ch_reaches l D K a_self a_grammar a_table s_self v4 v3 r_2 hc_3) 2 (gi_V ml_Ch_106 u_Ch_reaches) rfl ⟨rfl, rfl⟩ (by decide +kernel) ⟨by decide, by decide⟩ (ci := 3) rfl rfl rfl rfl rfl rfl (Nat.le_of_ble_eq_true rfl) ⟨Nat.zero_le _, Nat.zero_le _⟩ d_Ch_markEndless_44) ?_
    refine gd_if_eq X (tgt := 63) d_Ch_markEndless_47 (by decide) (fun c_4 => ?_) (fun c_4 => ?_)
    · replace h := it_p c_4 h
      obtain ⟨v4_5, ev4_5, h⟩ := nm_e' h
      refine gd_iinc X (v := v4_5) (lv' := [(4, .int v4_5), (0, .ref (a_self 0)), (1, .int v1), (2, .int v2), (3, .int v3)]) d_Ch_markEndless_63 (k := 4) rfl (by rw [ev4_5]; rfl) (by decide) rfl ?_
      refine gd_goto X (tgt := 33) d_Ch_markEndless_66 (by decide) ?_
      refine gd_loc (lv' := [(0, .ref (a_self 0)), (1, .int v1), (2, .int v2), (3, .int v3), (4, .int v4_5)]) [1, 2, 3, 4, 0] rfl ?_
      exact hkb s_self v4_5 h
    · replace h := it_n c_4 h
      refine gd_aload_n X d_Ch_markEndless_50 0 rfl ?_
      refine gd_iload X d_Ch_markEndless_51 4 rfl ?_
      refine gd_iload_n X d_Ch_markEndless_53 1 rfl ?_
      refine gd_iload_n X d_Ch_markEndless_54 2 rfl ?_
      obtain ⟨r_6, hc_7, h⟩ := bd1_e h
      refine gd_pI X (gd_Sc X (As := [.int v4, .int v1, .int v2]) (rest := [.ref (a_self 0)]) (c_Ch_cellOf l D K v4 v1 v2 r_6 hc_7) 3 (gi_S ml_Ch_44 u_Ch_cellOf) rfl ⟨rfl, rfl⟩ (by decide +kernel) ⟨by decide, by decide⟩ rfl rfl (Nat.le_of_ble_eq_true rfl) ⟨Nat.zero_le _, Nat.zero_le _⟩ d_Ch_markEndless_55) [] rfl rfl ?_
      refine gd_ldc X (v := 1000002) (List.mem_cons_of_mem _ kc_Ch_179) d_Ch_markEndless_58 ?_
      obtain ⟨s_self_8, hc_9, h⟩ := bd1_e h
      refine gd_fv X (w1 := [wd_Ch K a_self (a_grammar 0) (a_table 0) s_self_8]) (gd_V X (As := [.int r_6, .int 1000002]) (rest := []) (c_Ch_setWays l D K a_self a_grammar a_table s_self r_6 1000002 s_self_8 hc_9) 2 (gi_V ml_Ch_110 u_Ch_setWays) rfl ⟨rfl, rfl⟩ (by decide +kernel) ⟨by decide, by decide⟩ (ci := 3) rfl rfl rfl rfl rfl rfl (Nat.le_of_ble_eq_true rfl) ⟨Nat.zero_le _, Nat.zero_le _⟩ d_Ch_markEndless_60) ?_
      obtain ⟨v4_10, ev4_10, h⟩ := nm_e' h
      refine gd_iinc X (v := v4_10) (lv' := [(4, .int v4_10), (0, .ref (a_self 0)), (1, .int v1), (2, .int v2), (3, .int v3)]) d_Ch_markEndless_63 (k := 4) rfl (by rw [ev4_10]; rfl) (by decide) rfl ?_
      refine gd_goto X (tgt := 33) d_Ch_markEndless_66 (by decide) ?_
      refine gd_loc (lv' := [(0, .ref (a_self 0)), (1, .int v1), (2, .int v2), (3, .int v3), (4, .int v4_10)]) [1, 2, 3, 4, 0] rfl ?_
      exact hkb s_self_8 v4_10 h
def f_Ch_markEndless_69 (N : Nat) (kb : (Nat → Nat → Int32) → Int32 → Option ((Nat → Nat → Int32))) (kx75 : (Nat → Nat → Int32) → Option ((Nat → Nat → Int32))) (s_self : Nat → Nat → Int32) (v1 v2 v3 : Int32) : Option ((Nat → Nat → Int32)) :=
  nm (v3 + 1) fun v3_1 =>
  kb s_self v3_1
set_option maxHeartbeats 4000000 in
set_option maxRecDepth 100000 in
theorem t_Ch_markEndless_69 {p : Program} {l : Launch} {e : Env} {s : State} {m : MethodId} {args : Array Value} {below : List Frame} {meth : Method} {c : Code} {A : Nat → Prop} {D : va_G} {K : Nat → ClassId} (a_self a_grammar a_table : Nat → Nat) (X : gx p s m args c b_Ch_markEndless 5 R_Ch w_Ch_markEndless D classes (tyK K) A) (hr : meth.sig.returnType = none) (hlk : meth.locks = false) (N : Nat) (f_self : Nat → Nat → Int32) (s_self : Nat → Nat → Int32) (v1 v2 v3 : Int32) (kb : (Nat → Nat → Int32) → Int32 → Option ((Nat → Nat → Int32))) (hkb : ∀ (s_self : Nat → Nat → Int32) (v3 : Int32), kb s_self v3 = some f_self → Gd p l e rm_Ch_markEndless s m args below meth c 0 0 (MQ below (sq D classes (tyK K) none [wd_Ch K a_self (a_grammar 0) (a_table 0) f_self] A) args s 0 0 A) D classes A 5 2 [wd_Ch K a_self (a_grammar 0) (a_table 0) s_self] [(0, .ref (a_self 0)), (1, .int v1), (2, .int v2), (3, .int v3)] []) (kx75 : (Nat → Nat → Int32) → Option ((Nat → Nat → Int32))) (hkx75 : ∀ (s_self : Nat → Nat → Int32), kx75 s_self = some f_self → Gd p l e rm_Ch_markEndless s m args below meth c 0 0 (MQ below (sq D classes (tyK K) none [wd_Ch K a_self (a_grammar 0) (a_table 0) f_self] A) args s 0 0 A) D classes A 5 75 [wd_Ch K a_self (a_grammar 0) (a_table 0) s_self] [] []) (h : f_Ch_markEndless_69 N kb kx75 s_self v1 v2 v3 = some f_self) : Gd p l e rm_Ch_markEndless s m args below meth c 0 0 (MQ below (sq D classes (tyK K) none [wd_Ch K a_self (a_grammar 0) (a_table 0) f_self] A) args s 0 0 A) D classes A 5 69 [wd_Ch K a_self (a_grammar 0) (a_table 0) s_self] [(0, .ref (a_self 0)), (1, .int v1), (2, .int v2), (3, .int v3)] [] := by
  unfold f_Ch_markEndless_69 at h
  obtain ⟨v3_1, ev3_1, h⟩ := nm_e' h
  refine gd_iinc X (v := v3_1) (lv' := [(3, .int v3_1), (0, .ref (a_self 0)), (1, .int v1), (2, .int v2)]) d_Ch_markEndless_69 (k := 3) rfl (by rw [ev3_1]; rfl) (by decide) rfl ?_
  refine gd_goto X (tgt := 2) d_Ch_markEndless_72 (by decide) ?_
  refine gd_loc (lv' := [(0, .ref (a_self 0)), (1, .int v1), (2, .int v2), (3, .int v3_1)]) [1, 2, 3, 0] rfl ?_
  exact hkb s_self v3_1 h
def l_Ch_markEndless_33 (N : Nat) (v1 v2 v3 : Int32) (kx69 : (Nat → Nat → Int32) → Option ((Nat → Nat → Int32))) : Nat → (Nat → Nat → Int32) → Int32 → Option ((Nat → Nat → Int32))
  | 0, _, _ => none
  | n + 1, s_self, v4 => f_Ch_markEndless_33 N (l_Ch_markEndless_33 N v1 v2 v3 kx69 n) kx69 s_self v1 v2 v3 v4
set_option maxHeartbeats 4000000 in
set_option maxRecDepth 100000 in
theorem tl_Ch_markEndless_33 {p : Program} {l : Launch} {e : Env} {s : State} {m : MethodId} {args : Array Value} {below : List Frame} {meth : Method} {c : Code} {A : Nat → Prop} {D : va_G} {K : Nat → ClassId} (a_self a_grammar a_table : Nat → Nat) (X : gx p s m args c b_Ch_markEndless 5 R_Ch w_Ch_markEndless D classes (tyK K) A) (hr : meth.sig.returnType = none) (hlk : meth.locks = false) (N : Nat) (f_self : Nat → Nat → Int32) (v1 v2 v3 : Int32) (kx69 : (Nat → Nat → Int32) → Option ((Nat → Nat → Int32))) (hkx69 : ∀ (s_self : Nat → Nat → Int32), kx69 s_self = some f_self → Gd p l e rm_Ch_markEndless s m args below meth c 0 0 (MQ below (sq D classes (tyK K) none [wd_Ch K a_self (a_grammar 0) (a_table 0) f_self] A) args s 0 0 A) D classes A 5 69 [wd_Ch K a_self (a_grammar 0) (a_table 0) s_self] [(0, .ref (a_self 0)), (1, .int v1), (2, .int v2), (3, .int v3)] []) : ∀ (n : Nat) (s_self : Nat → Nat → Int32) (v4 : Int32), l_Ch_markEndless_33 N v1 v2 v3 kx69 n s_self v4 = some f_self → Gd p l e rm_Ch_markEndless s m args below meth c 0 0 (MQ below (sq D classes (tyK K) none [wd_Ch K a_self (a_grammar 0) (a_table 0) f_self] A) args s 0 0 A) D classes A 5 33 [wd_Ch K a_self (a_grammar 0) (a_table 0) s_self] [(0, .ref (a_self 0)), (1, .int v1), (2, .int v2), (3, .int v3), (4, .int v4)] [] := by
  intro n
  induction n with
  | zero => intro s_self v4 h; have h : (none : Option ((Nat → Nat → Int32))) = some _ := h; cases h
  | succ n ih =>
    intro s_self v4 h
    exact t_Ch_markEndless_33 a_self a_grammar a_table X hr hlk N f_self s_self v1 v2 v3 v4 (l_Ch_markEndless_33 N v1 v2 v3 kx69 n) ih kx69 hkx69 h
def f_Ch_markEndless_2 (N : Nat) (kb : (Nat → Nat → Int32) → Int32 → Option ((Nat → Nat → Int32))) (kx75 : (Nat → Nat → Int32) → Option ((Nat → Nat → Int32))) (s_self : Nat → Nat → Int32) (v1 v2 v3 : Int32) : Option ((Nat → Nat → Int32)) :=
  if 6 ≤ v3 then
    kx75 s_self
  else
    bd1 (m_Ch_reaches s_self v3 v3) fun r_2 =>
    if r_2 = 0 then
      f_Ch_markEndless_69 N kb kx75 s_self v1 v2 v3
    else
      bd1 (m_Ch_waysOf s_self v3 v1 v2) fun r_5 =>
      if r_5 = 0 then
        f_Ch_markEndless_69 N kb kx75 s_self v1 v2 v3
      else
        l_Ch_markEndless_33 N v1 v2 v3 (fun s_self => f_Ch_markEndless_69 N kb kx75 s_self v1 v2 v3) N s_self 0
set_option maxHeartbeats 4000000 in
set_option maxRecDepth 100000 in
theorem t_Ch_markEndless_2 {p : Program} {l : Launch} {e : Env} {s : State} {m : MethodId} {args : Array Value} {below : List Frame} {meth : Method} {c : Code} {A : Nat → Prop} {D : va_G} {K : Nat → ClassId} (a_self a_grammar a_table : Nat → Nat) (X : gx p s m args c b_Ch_markEndless 5 R_Ch w_Ch_markEndless D classes (tyK K) A) (hr : meth.sig.returnType = none) (hlk : meth.locks = false) (N : Nat) (f_self : Nat → Nat → Int32) (s_self : Nat → Nat → Int32) (v1 v2 v3 : Int32) (kb : (Nat → Nat → Int32) → Int32 → Option ((Nat → Nat → Int32))) (hkb : ∀ (s_self : Nat → Nat → Int32) (v3 : Int32), kb s_self v3 = some f_self → Gd p l e rm_Ch_markEndless s m args below meth c 0 0 (MQ below (sq D classes (tyK K) none [wd_Ch K a_self (a_grammar 0) (a_table 0) f_self] A) args s 0 0 A) D classes A 5 2 [wd_Ch K a_self (a_grammar 0) (a_table 0) s_self] [(0, .ref (a_self 0)), (1, .int v1), (2, .int v2), (3, .int v3)] []) (kx75 : (Nat → Nat → Int32) → Option ((Nat → Nat → Int32))) (hkx75 : ∀ (s_self : Nat → Nat → Int32), kx75 s_self = some f_self → Gd p l e rm_Ch_markEndless s m args below meth c 0 0 (MQ below (sq D classes (tyK K) none [wd_Ch K a_self (a_grammar 0) (a_table 0) f_self] A) args s 0 0 A) D classes A 5 75 [wd_Ch K a_self (a_grammar 0) (a_table 0) s_self] [] []) (h : f_Ch_markEndless_2 N kb kx75 s_self v1 v2 v3 = some f_self) : Gd p l e rm_Ch_markEndless s m args below meth c 0 0 (MQ below (sq D classes (tyK K) none [wd_Ch K a_self (a_grammar 0) (a_table 0) f_self] A) args s 0 0 A) D classes A 5 2 [wd_Ch K a_self (a_grammar 0) (a_table 0) s_self] [(0, .ref (a_self 0)), (1, .int v1), (2, .int v2), (3, .int v3)] [] := by
  unfold f_Ch_markEndless_2 at h
  refine gd_iload_n X d_Ch_markEndless_2 3 rfl ?_
  refine gd_bipush X (v := 6) d_Ch_markEndless_3 (by decide) ?_
  refine gd_icmp_ge X (tgt := 75) d_Ch_markEndless_5 (by decide) (fun c_1 => ?_) (fun c_1 => ?_)
  · replace h := it_p c_1 h
    refine gd_loc (lv' := []) [] rfl ?_
    exact hkx75 s_self h
  · replace h := it_n c_1 h
    refine gd_aload_n X d_Ch_markEndless_8 0 rfl ?_
    refine gd_iload_n X d_Ch_markEndless_9 3 rfl ?_
    refine gd_iload_n X d_Ch_markEndless_10 3 rfl ?_
    obtain ⟨r_2, hc_3, h⟩ := bd1_e h
    refine gd_fI X (gd_V X (As := [.int v3, .int v3]) (rest := []) (c_Ch_reaches l D K a_self a_grammar a_table s_self v3 v3 r_2 hc_3) 2 (gi_V ml_Ch_106 u_Ch_reaches) rfl ⟨rfl, rfl⟩ (by decide +kernel) ⟨by decide, by decide⟩ (ci := 3) rfl rfl rfl rfl rfl rfl (Nat.le_of_ble_eq_true rfl) ⟨Nat.zero_le _, Nat.zero_le _⟩ d_Ch_markEndless_11) ?_
    refine gd_if_eq X (tgt := 69) d_Ch_markEndless_14 (by decide) (fun c_4 => ?_) (fun c_4 => ?_)
    · replace h := it_p c_4 h
      exact t_Ch_markEndless_69 a_self a_grammar a_table X hr hlk N f_self s_self v1 v2 v3 kb hkb kx75 hkx75 h
    · replace h := it_n c_4 h
      refine gd_aload_n X d_Ch_markEndless_17 0 rfl ?_
      refine gd_iload_n X d_Ch_markEndless_18 3 rfl ?_
      refine gd_iload_n X d_Ch_markEndless_19 1 rfl ?_
      refine gd_iload_n X d_Ch_markEndless_20 2 rfl ?_
      obtain ⟨r_5, hc_6, h⟩ := bd1_e h
      refine gd_fI X (gd_V X (As := [.int v3, .int v1, .int v2]) (rest := []) (c_Ch_waysOf l D K a_self a_grammar a_table s_self v3 v1 v2 r_5 hc_6) 3 (gi_V ml_Ch_159 u_Ch_waysOf) rfl ⟨rfl, rfl⟩ (by decide +kernel) ⟨by decide, by decide⟩ (ci := 3) rfl rfl rfl rfl rfl rfl (Nat.le_of_ble_eq_true rfl) ⟨Nat.zero_le _, Nat.zero_le _⟩ d_Ch_markEndless_21) ?_
      refine gd_if_ne X (tgt := 30) d_Ch_markEndless_24 (by decide) (fun c_7 => ?_) (fun c_7 => ?_)
      · replace h := it_n c_7 h
        refine gd_iconst X (v := 0) d_Ch_markEndless_30 (by decide) ?_
        refine gd_istore X (lv' := [(4, .int 0), (0, .ref (a_self 0)), (1, .int v1), (2, .int v2), (3, .int v3)]) d_Ch_markEndless_31 (by decide) rfl ?_
        refine gd_loc (lv' := [(0, .ref (a_self 0)), (1, .int v1), (2, .int v2), (3, .int v3), (4, .int 0)]) [1, 2, 3, 4, 0] rfl ?_
        exact tl_Ch_markEndless_33 a_self a_grammar a_table X hr hlk N f_self v1 v2 v3 (fun s_self => f_Ch_markEndless_69 N kb kx75 s_self v1 v2 v3) (fun s_self h => t_Ch_markEndless_69 a_self a_grammar a_table X hr hlk N f_self s_self v1 v2 v3 kb hkb kx75 hkx75 h) N s_self 0 h
      · replace h := it_p c_7 h
        refine gd_goto X (tgt := 69) d_Ch_markEndless_27 (by decide) ?_
        exact t_Ch_markEndless_69 a_self a_grammar a_table X hr hlk N f_self s_self v1 v2 v3 kb hkb kx75 hkx75 h
def f_Ch_markEndless_75 (N : Nat) (s_self : Nat → Nat → Int32) : Option ((Nat → Nat → Int32)) :=
  some s_self
set_option maxHeartbeats 4000000 in
set_option maxRecDepth 100000 in
theorem t_Ch_markEndless_75 {p : Program} {l : Launch} {e : Env} {s : State} {m : MethodId} {args : Array Value} {below : List Frame} {meth : Method} {c : Code} {A : Nat → Prop} {D : va_G} {K : Nat → ClassId} (a_self a_grammar a_table : Nat → Nat) (X : gx p s m args c b_Ch_markEndless 5 R_Ch w_Ch_markEndless D classes (tyK K) A) (hr : meth.sig.returnType = none) (hlk : meth.locks = false) (N : Nat) (f_self : Nat → Nat → Int32) (s_self : Nat → Nat → Int32) (h : f_Ch_markEndless_75 N s_self = some f_self) : Gd p l e rm_Ch_markEndless s m args below meth c 0 0 (MQ below (sq D classes (tyK K) none [wd_Ch K a_self (a_grammar 0) (a_table 0) f_self] A) args s 0 0 A) D classes A 5 75 [wd_Ch K a_self (a_grammar 0) (a_table 0) s_self] [] [] := by
  unfold f_Ch_markEndless_75 at h
  cases h
  exact gd_vret X hr hlk d_Ch_markEndless_75
def l_Ch_markEndless_2 (N : Nat) (v1 v2 : Int32) (kx75 : (Nat → Nat → Int32) → Option ((Nat → Nat → Int32))) : Nat → (Nat → Nat → Int32) → Int32 → Option ((Nat → Nat → Int32))
  | 0, _, _ => none
  | n + 1, s_self, v3 => f_Ch_markEndless_2 N (l_Ch_markEndless_2 N v1 v2 kx75 n) kx75 s_self v1 v2 v3
set_option maxHeartbeats 4000000 in
set_option maxRecDepth 100000 in
theorem tl_Ch_markEndless_2 {p : Program} {l : Launch} {e : Env} {s : State} {m : MethodId} {args : Array Value} {below : List Frame} {meth : Method} {c : Code} {A : Nat → Prop} {D : va_G} {K : Nat → ClassId} (a_self a_grammar a_table : Nat → Nat) (X : gx p s m args c b_Ch_markEndless 5 R_Ch w_Ch_markEndless D classes (tyK K) A) (hr : meth.sig.returnType = none) (hlk : meth.locks = false) (N : Nat) (f_self : Nat → Nat → Int32) (v1 v2 : Int32) (kx75 : (Nat → Nat → Int32) → Option ((Nat → Nat → Int32))) (hkx75 : ∀ (s_self : Nat → Nat → Int32), kx75 s_self = some f_self → Gd p l e rm_Ch_markEndless s m args below meth c 0 0 (MQ below (sq D classes (tyK K) none [wd_Ch K a_self (a_grammar 0) (a_table 0) f_self] A) args s 0 0 A) D classes A 5 75 [wd_Ch K a_self (a_grammar 0) (a_table 0) s_self] [] []) : ∀ (n : Nat) (s_self : Nat → Nat → Int32) (v3 : Int32), l_Ch_markEndless_2 N v1 v2 kx75 n s_self v3 = some f_self → Gd p l e rm_Ch_markEndless s m args below meth c 0 0 (MQ below (sq D classes (tyK K) none [wd_Ch K a_self (a_grammar 0) (a_table 0) f_self] A) args s 0 0 A) D classes A 5 2 [wd_Ch K a_self (a_grammar 0) (a_table 0) s_self] [(0, .ref (a_self 0)), (1, .int v1), (2, .int v2), (3, .int v3)] [] := by
  intro n
  induction n with
  | zero => intro s_self v3 h; have h : (none : Option ((Nat → Nat → Int32))) = some _ := h; cases h
  | succ n ih =>
    intro s_self v3 h
    exact t_Ch_markEndless_2 a_self a_grammar a_table X hr hlk N f_self s_self v1 v2 v3 (l_Ch_markEndless_2 N v1 v2 kx75 n) ih kx75 hkx75 h
def f_Ch_markEndless_0 (N : Nat) (s_self : Nat → Nat → Int32) (v1 v2 : Int32) : Option ((Nat → Nat → Int32)) :=
  l_Ch_markEndless_2 N v1 v2 (fun s_self => f_Ch_markEndless_75 N s_self) N s_self 0
set_option maxHeartbeats 4000000 in
set_option maxRecDepth 100000 in
theorem t_Ch_markEndless_0 {p : Program} {l : Launch} {e : Env} {s : State} {m : MethodId} {args : Array Value} {below : List Frame} {meth : Method} {c : Code} {A : Nat → Prop} {D : va_G} {K : Nat → ClassId} (a_self a_grammar a_table : Nat → Nat) (X : gx p s m args c b_Ch_markEndless 5 R_Ch w_Ch_markEndless D classes (tyK K) A) (hr : meth.sig.returnType = none) (hlk : meth.locks = false) (N : Nat) (f_self : Nat → Nat → Int32) (s_self : Nat → Nat → Int32) (v1 v2 : Int32) (h : f_Ch_markEndless_0 N s_self v1 v2 = some f_self) : Gd p l e rm_Ch_markEndless s m args below meth c 0 0 (MQ below (sq D classes (tyK K) none [wd_Ch K a_self (a_grammar 0) (a_table 0) f_self] A) args s 0 0 A) D classes A 5 0 [wd_Ch K a_self (a_grammar 0) (a_table 0) s_self] [(0, .ref (a_self 0)), (1, .int v1), (2, .int v2)] [] := by
  unfold f_Ch_markEndless_0 at h
  refine gd_iconst X (v := 0) d_Ch_markEndless_0 (by decide) ?_
  refine gd_istore_n X (lv' := [(3, .int 0), (0, .ref (a_self 0)), (1, .int v1), (2, .int v2)]) d_Ch_markEndless_1 rfl (by decide) rfl ?_
  refine gd_loc (lv' := [(0, .ref (a_self 0)), (1, .int v1), (2, .int v2), (3, .int 0)]) [1, 2, 3, 0] rfl ?_
  exact tl_Ch_markEndless_2 a_self a_grammar a_table X hr hlk N f_self v1 v2 (fun s_self => f_Ch_markEndless_75 N s_self) (fun s_self h => t_Ch_markEndless_75 a_self a_grammar a_table X hr hlk N f_self s_self h) N s_self 0 h
def m_Ch_markEndless (N : Nat) (s_self : Nat → Nat → Int32) (v1 v2 : Int32) : Option ((Nat → Nat → Int32)) := f_Ch_markEndless_0 N s_self v1 v2
set_option maxHeartbeats 4000000 in
set_option maxRecDepth 100000 in
theorem c_Ch_markEndless (l : Launch) (D : va_G) (K : Nat → ClassId) (a_self a_grammar a_table : Nat → Nat) (N : Nat) (s_self : Nat → Nat → Int32) (v1 v2 : Int32) (f_self : Nat → Nat → Int32) (h : m_Ch_markEndless N s_self v1 v2 = some f_self) : SMet l y_Ch_markEndless w_Ch_markEndless rm_Ch_markEndless D classes (tyK K) [.ref (a_self 0), .int v1, .int v2] none [wd_Ch K a_self (a_grammar 0) (a_table 0) s_self] [wd_Ch K a_self (a_grammar 0) (a_table 0) f_self] := by
  refine sm_of R_Ch (by decide) rfl rfl (Nat.le_of_ble_eq_true rfl) ?_
  intro p e s m below meth c A X hr hlk
  refine gd_loc (lv' := [(0, .ref (a_self 0)), (1, .int v1), (2, .int v2)]) [0, 1, 2] rfl ?_
  exact t_Ch_markEndless_0 a_self a_grammar a_table X hr hlk N f_self s_self v1 v2 h
abbrev b_Ch_fillStretch : ByteArray := prog_2_method_13_code
def y_Ch_fillStretch : MethodName := ⟨R_Ch, "fillStretch", "(II)V"⟩
def w_Ch_fillStretch : List Cond := .code y_Ch_fillStretch b_Ch_fillStretch 5 none :: TB
theorem k_Ch_fillStretch : Cond.code y_Ch_fillStretch b_Ch_fillStretch 5 none ∈ TB := tb_of 418 (by decide +kernel) (by decide +kernel)
theorem d_Ch_fillStretch_0 : decode b_Ch_fillStretch 0 = .ok (.iconst 0, 1) := by decide +kernel
theorem d_Ch_fillStretch_1 : decode b_Ch_fillStretch 1 = .ok (.istore_n 3, 1) := by decide +kernel
theorem d_Ch_fillStretch_2 : decode b_Ch_fillStretch 2 = .ok (.iload_n 3, 1) := by decide +kernel
theorem d_Ch_fillStretch_3 : decode b_Ch_fillStretch 3 = .ok (.bipush 6, 2) := by decide +kernel
theorem d_Ch_fillStretch_5 : decode b_Ch_fillStretch 5 = .ok (.if_icmp .ge 33, 3) := by decide +kernel
theorem d_Ch_fillStretch_8 : decode b_Ch_fillStretch 8 = .ok (.iload_n 3, 1) := by decide +kernel
theorem d_Ch_fillStretch_9 : decode b_Ch_fillStretch 9 = .ok (.iload_n 1, 1) := by decide +kernel
theorem d_Ch_fillStretch_10 : decode b_Ch_fillStretch 10 = .ok (.iload_n 2, 1) := by decide +kernel
theorem d_Ch_fillStretch_11 : decode b_Ch_fillStretch 11 = .ok (.invokestatic 44, 3) := by decide +kernel
theorem d_Ch_fillStretch_14 : decode b_Ch_fillStretch 14 = .ok (.istore 4, 2) := by decide +kernel
theorem d_Ch_fillStretch_16 : decode b_Ch_fillStretch 16 = .ok (.aload_n 0, 1) := by decide +kernel
theorem d_Ch_fillStretch_17 : decode b_Ch_fillStretch 17 = .ok (.iload 4, 2) := by decide +kernel
theorem d_Ch_fillStretch_19 : decode b_Ch_fillStretch 19 = .ok (.iconst 0, 1) := by decide +kernel
theorem d_Ch_fillStretch_20 : decode b_Ch_fillStretch 20 = .ok (.invokevirtual 110, 3) := by decide +kernel
theorem d_Ch_fillStretch_23 : decode b_Ch_fillStretch 23 = .ok (.aload_n 0, 1) := by decide +kernel
theorem d_Ch_fillStretch_24 : decode b_Ch_fillStretch 24 = .ok (.getfield 18, 3) := by decide +kernel
theorem d_Ch_fillStretch_27 : decode b_Ch_fillStretch 27 = .ok (.iload 4, 2) := by decide +kernel
theorem d_Ch_fillStretch_29 : decode b_Ch_fillStretch 29 = .ok (.invokevirtual 113, 3) := by decide +kernel
theorem d_Ch_fillStretch_32 : decode b_Ch_fillStretch 32 = .ok (.iinc 3 1, 3) := by decide +kernel
theorem d_Ch_fillStretch_35 : decode b_Ch_fillStretch 35 = .ok (.goto (-33), 3) := by decide +kernel
theorem d_Ch_fillStretch_38 : decode b_Ch_fillStretch 38 = .ok (.iload_n 2, 1) := by decide +kernel
theorem d_Ch_fillStretch_39 : decode b_Ch_fillStretch 39 = .ok (.iload_n 1, 1) := by decide +kernel
theorem d_Ch_fillStretch_40 : decode b_Ch_fillStretch 40 = .ok (.isub, 1) := by decide +kernel
theorem d_Ch_fillStretch_41 : decode b_Ch_fillStretch 41 = .ok (.iconst 1, 1) := by decide +kernel
theorem d_Ch_fillStretch_42 : decode b_Ch_fillStretch 42 = .ok (.if_icmp .ne 8, 3) := by decide +kernel
theorem d_Ch_fillStretch_45 : decode b_Ch_fillStretch 45 = .ok (.aload_n 0, 1) := by decide +kernel
theorem d_Ch_fillStretch_46 : decode b_Ch_fillStretch 46 = .ok (.iload_n 1, 1) := by decide +kernel
theorem d_Ch_fillStretch_47 : decode b_Ch_fillStretch 47 = .ok (.invokevirtual 117, 3) := by decide +kernel
theorem d_Ch_fillStretch_50 : decode b_Ch_fillStretch 50 = .ok (.iconst 0, 1) := by decide +kernel
theorem d_Ch_fillStretch_51 : decode b_Ch_fillStretch 51 = .ok (.istore_n 3, 1) := by decide +kernel
theorem d_Ch_fillStretch_52 : decode b_Ch_fillStretch 52 = .ok (.iload_n 3, 1) := by decide +kernel
theorem d_Ch_fillStretch_53 : decode b_Ch_fillStretch 53 = .ok (.aload_n 0, 1) := by decide +kernel
theorem d_Ch_fillStretch_54 : decode b_Ch_fillStretch 54 = .ok (.getfield 9, 3) := by decide +kernel
theorem d_Ch_fillStretch_57 : decode b_Ch_fillStretch 57 = .ok (.getfield 67, 3) := by decide +kernel
theorem d_Ch_fillStretch_60 : decode b_Ch_fillStretch 60 = .ok (.if_icmp .ge 30, 3) := by decide +kernel
theorem d_Ch_fillStretch_63 : decode b_Ch_fillStretch 63 = .ok (.aload_n 0, 1) := by decide +kernel
theorem d_Ch_fillStretch_64 : decode b_Ch_fillStretch 64 = .ok (.getfield 9, 3) := by decide +kernel
theorem d_Ch_fillStretch_67 : decode b_Ch_fillStretch 67 = .ok (.iload_n 3, 1) := by decide +kernel
theorem d_Ch_fillStretch_68 : decode b_Ch_fillStretch 68 = .ok (.invokevirtual 90, 3) := by decide +kernel
theorem d_Ch_fillStretch_71 : decode b_Ch_fillStretch 71 = .ok (.ifCond .ne 13, 3) := by decide +kernel
theorem d_Ch_fillStretch_74 : decode b_Ch_fillStretch 74 = .ok (.aload_n 0, 1) := by decide +kernel
theorem d_Ch_fillStretch_75 : decode b_Ch_fillStretch 75 = .ok (.iload_n 3, 1) := by decide +kernel
theorem d_Ch_fillStretch_76 : decode b_Ch_fillStretch 76 = .ok (.iload_n 1, 1) := by decide +kernel
theorem d_Ch_fillStretch_77 : decode b_Ch_fillStretch 77 = .ok (.iload_n 2, 1) := by decide +kernel
theorem d_Ch_fillStretch_78 : decode b_Ch_fillStretch 78 = .ok (.iconst 0, 1) := by decide +kernel
theorem d_Ch_fillStretch_79 : decode b_Ch_fillStretch 79 = .ok (.iload_n 1, 1) := by decide +kernel
theorem d_Ch_fillStretch_80 : decode b_Ch_fillStretch 80 = .ok (.iconst 0, 1) := by decide +kernel
theorem d_Ch_fillStretch_81 : decode b_Ch_fillStretch 81 = .ok (.invokevirtual 120, 3) := by decide +kernel
theorem d_Ch_fillStretch_84 : decode b_Ch_fillStretch 84 = .ok (.iinc 3 1, 3) := by decide +kernel
theorem d_Ch_fillStretch_87 : decode b_Ch_fillStretch 87 = .ok (.goto (-35), 3) := by decide +kernel
theorem d_Ch_fillStretch_90 : decode b_Ch_fillStretch 90 = .ok (.aload_n 0, 1) := by decide +kernel
theorem d_Ch_fillStretch_91 : decode b_Ch_fillStretch 91 = .ok (.getfield 94, 3) := by decide +kernel
theorem d_Ch_fillStretch_94 : decode b_Ch_fillStretch 94 = .ok (.ifCond .le 21, 3) := by decide +kernel
theorem d_Ch_fillStretch_97 : decode b_Ch_fillStretch 97 = .ok (.aload_n 0, 1) := by decide +kernel
theorem d_Ch_fillStretch_98 : decode b_Ch_fillStretch 98 = .ok (.iload_n 1, 1) := by decide +kernel
theorem d_Ch_fillStretch_99 : decode b_Ch_fillStretch 99 = .ok (.iload_n 2, 1) := by decide +kernel
theorem d_Ch_fillStretch_100 : decode b_Ch_fillStretch 100 = .ok (.invokevirtual 124, 3) := by decide +kernel
theorem d_Ch_fillStretch_103 : decode b_Ch_fillStretch 103 = .ok (.aload_n 0, 1) := by decide +kernel
theorem d_Ch_fillStretch_104 : decode b_Ch_fillStretch 104 = .ok (.iload_n 1, 1) := by decide +kernel
theorem d_Ch_fillStretch_105 : decode b_Ch_fillStretch 105 = .ok (.iload_n 2, 1) := by decide +kernel
theorem d_Ch_fillStretch_106 : decode b_Ch_fillStretch 106 = .ok (.invokevirtual 127, 3) := by decide +kernel
theorem d_Ch_fillStretch_109 : decode b_Ch_fillStretch 109 = .ok (.aload_n 0, 1) := by decide +kernel
theorem d_Ch_fillStretch_110 : decode b_Ch_fillStretch 110 = .ok (.iload_n 1, 1) := by decide +kernel
theorem d_Ch_fillStretch_111 : decode b_Ch_fillStretch 111 = .ok (.iload_n 2, 1) := by decide +kernel
theorem d_Ch_fillStretch_112 : decode b_Ch_fillStretch 112 = .ok (.invokevirtual 130, 3) := by decide +kernel
theorem d_Ch_fillStretch_115 : decode b_Ch_fillStretch 115 = .ok (.return_, 1) := by decide +kernel
theorem ml_Ch_113 : Cond.methodLink R_Ch 113 ⟨"RuleTrees$TreeTable", "forget", "(I)V"⟩ ∈ TB := tb_of 426 (by decide +kernel) (by decide +kernel)
theorem u_Tt_forget : (Cond.instanceMethod y_Tt_forget ∈ TB ∧ Cond.selects R_Tt y_Tt_forget y_Tt_forget ∈ TB) ∧ Cond.initialized R_Tt ∈ TB ∧ Cond.code y_Tt_forget b_Tt_forget 2 none ∈ TB := ⟨⟨(tb_of 427 (by decide +kernel) (by decide +kernel)), (tb_of 428 (by decide +kernel) (by decide +kernel))⟩, (tb_of 65 (by decide +kernel) (by decide +kernel)), k_Tt_forget⟩
theorem fl_Ch_67 : Cond.fieldLink R_Ch 67 "RuleTrees$Grammar" "rules" "I" ∈ TB := tb_of 92 (by decide +kernel) (by decide +kernel)
theorem ml_Ch_90 : Cond.methodLink R_Ch 90 ⟨"RuleTrees$Grammar", "isUnit", "(I)Z"⟩ ∈ TB := tb_of 375 (by decide +kernel) (by decide +kernel)
theorem u_Gr_isUnit : (Cond.instanceMethod y_Gr_isUnit ∈ TB ∧ Cond.selects R_Gr y_Gr_isUnit y_Gr_isUnit ∈ TB) ∧ Cond.initialized R_Gr ∈ TB ∧ Cond.code y_Gr_isUnit b_Gr_isUnit 2 (some .boolean) ∈ TB := ⟨⟨(tb_of 376 (by decide +kernel) (by decide +kernel)), (tb_of 377 (by decide +kernel) (by decide +kernel))⟩, (tb_of 63 (by decide +kernel) (by decide +kernel)), k_Gr_isUnit⟩
theorem ml_Ch_124 : Cond.methodLink R_Ch 124 ⟨"RuleTrees$Chart", "addUnitWays", "(II)V"⟩ ∈ TB := tb_of 528 (by decide +kernel) (by decide +kernel)
theorem u_Ch_addUnitWays : (Cond.instanceMethod y_Ch_addUnitWays ∈ TB ∧ Cond.selects R_Ch y_Ch_addUnitWays y_Ch_addUnitWays ∈ TB) ∧ Cond.initialized R_Ch ∈ TB ∧ Cond.code y_Ch_addUnitWays b_Ch_addUnitWays 8 none ∈ TB := ⟨⟨(tb_of 530 (by decide +kernel) (by decide +kernel)), (tb_of 17 (by decide +kernel) (by decide +kernel))⟩, (tb_of 64 (by decide +kernel) (by decide +kernel)), k_Ch_addUnitWays⟩
theorem ml_Ch_127 : Cond.methodLink R_Ch 127 ⟨"RuleTrees$Chart", "markEndless", "(II)V"⟩ ∈ TB := tb_of 532 (by decide +kernel) (by decide +kernel)
theorem u_Ch_markEndless : (Cond.instanceMethod y_Ch_markEndless ∈ TB ∧ Cond.selects R_Ch y_Ch_markEndless y_Ch_markEndless ∈ TB) ∧ Cond.initialized R_Ch ∈ TB ∧ Cond.code y_Ch_markEndless b_Ch_markEndless 5 none ∈ TB := ⟨⟨(tb_of 534 (by decide +kernel) (by decide +kernel)), (tb_of 18 (by decide +kernel) (by decide +kernel))⟩, (tb_of 64 (by decide +kernel) (by decide +kernel)), k_Ch_markEndless⟩
theorem ml_Ch_130 : Cond.methodLink R_Ch 130 ⟨"RuleTrees$Chart", "addUnitTrees", "(II)V"⟩ ∈ TB := tb_of 537 (by decide +kernel) (by decide +kernel)
theorem u_Ch_addUnitTrees : (Cond.instanceMethod y_Ch_addUnitTrees ∈ TB ∧ Cond.selects R_Ch y_Ch_addUnitTrees y_Ch_addUnitTrees ∈ TB) ∧ Cond.initialized R_Ch ∈ TB ∧ Cond.code y_Ch_addUnitTrees b_Ch_addUnitTrees 6 none ∈ TB := ⟨⟨(tb_of 539 (by decide +kernel) (by decide +kernel)), (tb_of 19 (by decide +kernel) (by decide +kernel))⟩, (tb_of 64 (by decide +kernel) (by decide +kernel)), k_Ch_addUnitTrees⟩
theorem ml_Ch_117 : Cond.methodLink R_Ch 117 ⟨"RuleTrees$Chart", "addLeaf", "(I)V"⟩ ∈ TB := tb_of 436 (by decide +kernel) (by decide +kernel)
theorem u_Ch_addLeaf : (Cond.instanceMethod y_Ch_addLeaf ∈ TB ∧ Cond.selects R_Ch y_Ch_addLeaf y_Ch_addLeaf ∈ TB) ∧ Cond.initialized R_Ch ∈ TB ∧ Cond.code y_Ch_addLeaf b_Ch_addLeaf 4 none ∈ TB := ⟨⟨(tb_of 438 (by decide +kernel) (by decide +kernel)), (tb_of 6 (by decide +kernel) (by decide +kernel))⟩, (tb_of 64 (by decide +kernel) (by decide +kernel)), k_Ch_addLeaf⟩
abbrev rm_Ch_fillStretch : Room := { frames := 14, cells := 0, slots := 0, locals := 412 }
def f_Ch_fillStretch_2 (N : Nat) (kb : (Nat → Nat → Int32) → (Nat → Nat → Int32) → Int32 → Option ((Nat → Nat → Int32) × (Nat → Nat → Int32))) (kx38 : (Nat → Nat → Int32) → (Nat → Nat → Int32) → Option ((Nat → Nat → Int32) × (Nat → Nat → Int32))) (s_self s_grammar s_table : Nat → Nat → Int32) (v1 v2 v3 : Int32) : Option ((Nat → Nat → Int32) × (Nat → Nat → Int32)) :=
  if 6 ≤ v3 then
    kx38 s_self s_table
  else
    bd1 (m_Ch_cellOf v3 v1 v2) fun r_2 =>
    bd1 (m_Ch_setWays s_self r_2 0) fun s_self_4 =>
    bd1 (m_Tt_forget s_table r_2) fun s_table_6 =>
    nm (v3 + 1) fun v3_8 =>
    kb s_self_4 s_table_6 v3_8
set_option maxHeartbeats 4000000 in
set_option maxRecDepth 100000 in
theorem t_Ch_fillStretch_2 {p : Program} {l : Launch} {e : Env} {s : State} {m : MethodId} {args : Array Value} {below : List Frame} {meth : Method} {c : Code} {A : Nat → Prop} {D : va_G} {K : Nat → ClassId} (a_self a_grammar a_table : Nat → Nat) (X : gx p s m args c b_Ch_fillStretch 5 R_Ch w_Ch_fillStretch D classes (tyK K) A) (hr : meth.sig.returnType = none) (hlk : meth.locks = false) (N : Nat) (f_self f_table : Nat → Nat → Int32) (s_self s_grammar s_table : Nat → Nat → Int32) (v1 v2 v3 : Int32) (kb : (Nat → Nat → Int32) → (Nat → Nat → Int32) → Int32 → Option ((Nat → Nat → Int32) × (Nat → Nat → Int32))) (hkb : ∀ (s_self s_table : Nat → Nat → Int32) (v3 : Int32), kb s_self s_table v3 = some (f_self, f_table) → Gd p l e rm_Ch_fillStretch s m args below meth c 0 0 (MQ below (sq D classes (tyK K) none [wd_Ch K a_self (a_grammar 0) (a_table 0) f_self, wd_Gr K a_grammar s_grammar, wd_Tt K a_table f_table] A) args s 0 0 A) D classes A 5 2 [wd_Ch K a_self (a_grammar 0) (a_table 0) s_self, wd_Gr K a_grammar s_grammar, wd_Tt K a_table s_table] [(0, .ref (a_self 0)), (1, .int v1), (2, .int v2), (3, .int v3)] []) (kx38 : (Nat → Nat → Int32) → (Nat → Nat → Int32) → Option ((Nat → Nat → Int32) × (Nat → Nat → Int32))) (hkx38 : ∀ (s_self s_table : Nat → Nat → Int32), kx38 s_self s_table = some (f_self, f_table) → Gd p l e rm_Ch_fillStretch s m args below meth c 0 0 (MQ below (sq D classes (tyK K) none [wd_Ch K a_self (a_grammar 0) (a_table 0) f_self, wd_Gr K a_grammar s_grammar, wd_Tt K a_table f_table] A) args s 0 0 A) D classes A 5 38 [wd_Ch K a_self (a_grammar 0) (a_table 0) s_self, wd_Gr K a_grammar s_grammar, wd_Tt K a_table s_table] [(0, .ref (a_self 0)), (1, .int v1), (2, .int v2)] []) (h : f_Ch_fillStretch_2 N kb kx38 s_self s_grammar s_table v1 v2 v3 = some (f_self, f_table)) : Gd p l e rm_Ch_fillStretch s m args below meth c 0 0 (MQ below (sq D classes (tyK K) none [wd_Ch K a_self (a_grammar 0) (a_table 0) f_self, wd_Gr K a_grammar s_grammar, wd_Tt K a_table f_table] A) args s 0 0 A) D classes A 5 2 [wd_Ch K a_self (a_grammar 0) (a_table 0) s_self, wd_Gr K a_grammar s_grammar, wd_Tt K a_table s_table] [(0, .ref (a_self 0)), (1, .int v1), (2, .int v2), (3, .int v3)] [] := by
  unfold f_Ch_fillStretch_2 at h
  refine gd_iload_n X d_Ch_fillStretch_2 3 rfl ?_
  refine gd_bipush X (v := 6) d_Ch_fillStretch_3 (by decide) ?_
  refine gd_icmp_ge X (tgt := 38) d_Ch_fillStretch_5 (by decide) (fun c_1 => ?_) (fun c_1 => ?_)
  · replace h := it_p c_1 h
    refine gd_loc (lv' := [(0, .ref (a_self 0)), (1, .int v1), (2, .int v2)]) [0, 1, 2] rfl ?_
    exact hkx38 s_self s_table h
  · replace h := it_n c_1 h
    refine gd_iload_n X d_Ch_fillStretch_8 3 rfl ?_
    refine gd_iload_n X d_Ch_fillStretch_9 1 rfl ?_
    refine gd_iload_n X d_Ch_fillStretch_10 2 rfl ?_
    obtain ⟨r_2, hc_3, h⟩ := bd1_e h
    refine gd_pI X (gd_Sc X (As := [.int v3, .int v1, .int v2]) (rest := []) (c_Ch_cellOf l D K v3 v1 v2 r_2 hc_3) 3 (gi_S ml_Ch_44 u_Ch_cellOf) rfl ⟨rfl, rfl⟩ (by decide +kernel) ⟨by decide, by decide⟩ rfl rfl (Nat.le_of_ble_eq_true rfl) ⟨Nat.zero_le _, Nat.zero_le _⟩ d_Ch_fillStretch_11) [] rfl rfl ?_
    refine gd_istore X (lv' := [(4, .int r_2), (0, .ref (a_self 0)), (1, .int v1), (2, .int v2), (3, .int v3)]) d_Ch_fillStretch_14 (by decide) rfl ?_
    refine gd_aload_n X d_Ch_fillStretch_16 1 rfl ?_
    refine gd_iload X d_Ch_fillStretch_17 0 rfl ?_
    refine gd_iconst X (v := 0) d_Ch_fillStretch_19 (by decide) ?_
    obtain ⟨s_self_4, hc_5, h⟩ := bd1_e h
    refine gd_cv X (gd_V X (As := [.int r_2, .int 0]) (rest := []) (c_Ch_setWays l D K a_self a_grammar a_table s_self r_2 0 s_self_4 hc_5) 2 (gi_V ml_Ch_110 u_Ch_setWays) rfl ⟨rfl, rfl⟩ (by decide +kernel) ⟨by decide, by decide⟩ (ci := 3) rfl rfl rfl rfl rfl rfl (Nat.le_of_ble_eq_true rfl) ⟨Nat.zero_le _, Nat.zero_le _⟩ d_Ch_fillStretch_20) (w2 := [wd_Ch K a_self (a_grammar 0) (a_table 0) s_self_4, wd_Gr K a_grammar s_grammar, wd_Tt K a_table s_table]) [0] [1, 2] rfl rfl rfl rfl ⟨rfl, rfl⟩ rfl ?_
    refine gd_aload_n X d_Ch_fillStretch_23 1 rfl ?_
    refine gd_get X (ci := 3) (C := R_Ch) (T := F_Ch) (N := 12) (v := .ref (a_table 0)) 0 0 rfl rfl rfl (in_Ch _) 1 (by decide) (List.mem_cons_of_mem _ fl_Ch_18) rfl rfl d_Ch_fillStretch_24 ?_
    refine gd_iload X d_Ch_fillStretch_27 0 rfl ?_
    obtain ⟨s_table_6, hc_7, h⟩ := bd1_e h
    refine gd_cv X (gd_V X (As := [.int r_2]) (rest := []) (c_Tt_forget l D K a_table s_table r_2 s_table_6 hc_7) 1 (gi_V ml_Ch_113 u_Tt_forget) rfl ⟨rfl, rfl⟩ (by decide +kernel) ⟨by decide, by decide⟩ (ci := 2) rfl rfl rfl rfl rfl rfl (Nat.le_of_ble_eq_true rfl) ⟨Nat.zero_le _, Nat.zero_le _⟩ d_Ch_fillStretch_29) (w2 := [wd_Ch K a_self (a_grammar 0) (a_table 0) s_self_4, wd_Gr K a_grammar s_grammar, wd_Tt K a_table s_table_6]) [2] [0, 1] rfl rfl rfl rfl ⟨rfl, rfl⟩ rfl ?_
    obtain ⟨v3_8, ev3_8, h⟩ := nm_e' h
    refine gd_iinc X (v := v3_8) (lv' := [(3, .int v3_8), (4, .int r_2), (0, .ref (a_self 0)), (1, .int v1), (2, .int v2)]) d_Ch_fillStretch_32 (k := 4) rfl (by rw [ev3_8]; rfl) (by decide) rfl ?_
    refine gd_goto X (tgt := 2) d_Ch_fillStretch_35 (by decide) ?_
    refine gd_loc (lv' := [(0, .ref (a_self 0)), (1, .int v1), (2, .int v2), (3, .int v3_8)]) [2, 3, 4, 0] rfl ?_
    exact hkb s_self_4 s_table_6 v3_8 h
def f_Ch_fillStretch_52 (N : Nat) (kb : (Nat → Nat → Int32) → (Nat → Nat → Int32) → Int32 → Option ((Nat → Nat → Int32) × (Nat → Nat → Int32))) (kx90 : (Nat → Nat → Int32) → (Nat → Nat → Int32) → Option ((Nat → Nat → Int32) × (Nat → Nat → Int32))) (s_self s_grammar s_table : Nat → Nat → Int32) (v1 v2 v3 : Int32) : Option ((Nat → Nat → Int32) × (Nat → Nat → Int32)) :=
  if (s_grammar 0 2) ≤ v3 then
    kx90 s_self s_table
  else
    bd1 (m_Gr_isUnit s_grammar v3) fun r_2 =>
    if r_2 = 0 then
      bd2 (m_Ch_fit 9 N s_self s_grammar s_table v3 v1 v2 0 v1 0) fun s_self_6 s_table_7 =>
      nm (v3 + 1) fun v3_9 =>
      kb s_self_6 s_table_7 v3_9
    else
      nm (v3 + 1) fun v3_5 =>
      kb s_self s_table v3_5
set_option maxHeartbeats 4000000 in
set_option maxRecDepth 100000 in
theorem t_Ch_fillStretch_52 {p : Program} {l : Launch} {e : Env} {s : State} {m : MethodId} {args : Array Value} {below : List Frame} {meth : Method} {c : Code} {A : Nat → Prop} {D : va_G} {K : Nat → ClassId} (a_self a_grammar a_table : Nat → Nat) (X : gx p s m args c b_Ch_fillStretch 5 R_Ch w_Ch_fillStretch D classes (tyK K) A) (hr : meth.sig.returnType = none) (hlk : meth.locks = false) (N : Nat) (f_self f_table : Nat → Nat → Int32) (s_self s_grammar s_table : Nat → Nat → Int32) (v1 v2 v3 : Int32) (kb : (Nat → Nat → Int32) → (Nat → Nat → Int32) → Int32 → Option ((Nat → Nat → Int32) × (Nat → Nat → Int32))) (hkb : ∀ (s_self s_table : Nat → Nat → Int32) (v3 : Int32), kb s_self s_table v3 = some (f_self, f_table) → Gd p l e rm_Ch_fillStretch s m args below meth c 0 0 (MQ below (sq D classes (tyK K) none [wd_Ch K a_self (a_grammar 0) (a_table 0) f_self, wd_Gr K a_grammar s_grammar, wd_Tt K a_table f_table] A) args s 0 0 A) D classes A 5 52 [wd_Ch K a_self (a_grammar 0) (a_table 0) s_self, wd_Gr K a_grammar s_grammar, wd_Tt K a_table s_table] [(0, .ref (a_self 0)), (1, .int v1), (2, .int v2), (3, .int v3)] []) (kx90 : (Nat → Nat → Int32) → (Nat → Nat → Int32) → Option ((Nat → Nat → Int32) × (Nat → Nat → Int32))) (hkx90 : ∀ (s_self s_table : Nat → Nat → Int32), kx90 s_self s_table = some (f_self, f_table) → Gd p l e rm_Ch_fillStretch s m args below meth c 0 0 (MQ below (sq D classes (tyK K) none [wd_Ch K a_self (a_grammar 0) (a_table 0) f_self, wd_Gr K a_grammar s_grammar, wd_Tt K a_table f_table] A) args s 0 0 A) D classes A 5 90 [wd_Ch K a_self (a_grammar 0) (a_table 0) s_self, wd_Gr K a_grammar s_grammar, wd_Tt K a_table s_table] [(0, .ref (a_self 0)), (1, .int v1), (2, .int v2)] []) (h : f_Ch_fillStretch_52 N kb kx90 s_self s_grammar s_table v1 v2 v3 = some (f_self, f_table)) : Gd p l e rm_Ch_fillStretch s m args below meth c 0 0 (MQ below (sq D classes (tyK K) none [wd_Ch K a_self (a_grammar 0) (a_table 0) f_self, wd_Gr K a_grammar s_grammar, wd_Tt K a_table f_table] A) args s 0 0 A) D classes A 5 52 [wd_Ch K a_self (a_grammar 0) (a_table 0) s_self, wd_Gr K a_grammar s_grammar, wd_Tt K a_table s_table] [(0, .ref (a_self 0)), (1, .int v1), (2, .int v2), (3, .int v3)] [] := by
  unfold f_Ch_fillStretch_52 at h
  refine gd_iload_n X d_Ch_fillStretch_52 3 rfl ?_
  refine gd_aload_n X d_Ch_fillStretch_53 0 rfl ?_
  refine gd_get X (ci := 3) (C := R_Ch) (T := F_Ch) (N := 12) (v := .ref (a_grammar 0)) 0 0 rfl rfl rfl (in_Ch _) 0 (by decide) (List.mem_cons_of_mem _ fl_Ch_9) rfl rfl d_Ch_fillStretch_54 ?_
  refine gd_get X (ci := 1) (C := R_Gr) (T := F_Gr) (N := 12) (v := .int (s_grammar 0 2)) 1 0 rfl rfl rfl (in_Gr _) 2 (by decide) (List.mem_cons_of_mem _ fl_Ch_67) rfl rfl d_Ch_fillStretch_57 ?_
  refine gd_icmp_ge X (tgt := 90) d_Ch_fillStretch_60 (by decide) (fun c_1 => ?_) (fun c_1 => ?_)
  · replace h := it_p c_1 h
    refine gd_loc (lv' := [(0, .ref (a_self 0)), (1, .int v1), (2, .int v2)]) [0, 1, 2] rfl ?_
    exact hkx90 s_self s_table h
  · replace h := it_n c_1 h
    refine gd_aload_n X d_Ch_fillStretch_63 0 rfl ?_
    refine gd_get X (ci := 3) (C := R_Ch) (T := F_Ch) (N := 12) (v := .ref (a_grammar 0)) 0 0 rfl rfl rfl (in_Ch _) 0 (by decide) (List.mem_cons_of_mem _ fl_Ch_9) rfl rfl d_Ch_fillStretch_64 ?_
    refine gd_iload_n X d_Ch_fillStretch_67 3 rfl ?_
    obtain ⟨r_2, hc_3, h⟩ := bd1_e h
    refine gd_pI X (gd_V X (As := [.int v3]) (rest := []) (c_Gr_isUnit l D K a_grammar s_grammar v3 r_2 hc_3) 1 (gi_V ml_Ch_90 u_Gr_isUnit) rfl ⟨rfl, rfl⟩ (by decide +kernel) ⟨by decide, by decide⟩ (ci := 1) rfl rfl rfl rfl rfl rfl (Nat.le_of_ble_eq_true rfl) ⟨Nat.zero_le _, Nat.zero_le _⟩ d_Ch_fillStretch_68) [1] rfl rfl ?_
    refine gd_if_ne X (tgt := 84) d_Ch_fillStretch_71 (by decide) (fun c_4 => ?_) (fun c_4 => ?_)
    · replace h := it_n c_4 h
      obtain ⟨v3_5, ev3_5, h⟩ := nm_e' h
      refine gd_iinc X (v := v3_5) (lv' := [(3, .int v3_5), (0, .ref (a_self 0)), (1, .int v1), (2, .int v2)]) d_Ch_fillStretch_84 (k := 3) rfl (by rw [ev3_5]; rfl) (by decide) rfl ?_
      refine gd_goto X (tgt := 52) d_Ch_fillStretch_87 (by decide) ?_
      refine gd_loc (lv' := [(0, .ref (a_self 0)), (1, .int v1), (2, .int v2), (3, .int v3_5)]) [1, 2, 3, 0] rfl ?_
      exact hkb s_self s_table v3_5 h
    · replace h := it_p c_4 h
      refine gd_aload_n X d_Ch_fillStretch_74 0 rfl ?_
      refine gd_iload_n X d_Ch_fillStretch_75 3 rfl ?_
      refine gd_iload_n X d_Ch_fillStretch_76 1 rfl ?_
      refine gd_iload_n X d_Ch_fillStretch_77 2 rfl ?_
      refine gd_iconst X (v := 0) d_Ch_fillStretch_78 (by decide) ?_
      refine gd_iload_n X d_Ch_fillStretch_79 1 rfl ?_
      refine gd_iconst X (v := 0) d_Ch_fillStretch_80 (by decide) ?_
      obtain ⟨s_self_6, s_table_7, hc_8, h⟩ := bd2_e h
      refine gd_fv X (w1 := [wd_Ch K a_self (a_grammar 0) (a_table 0) s_self_6, wd_Gr K a_grammar s_grammar, wd_Tt K a_table s_table_7]) (gd_V X (As := [.int v3, .int v1, .int v2, .int 0, .int v1, .int 0]) (rest := []) (c_Ch_fit l D K a_self a_grammar a_table 9 N s_self s_grammar s_table v3 v1 v2 0 v1 0 s_self_6 s_table_7 hc_8) 6 (gi_V ml_Ch_120 u_Ch_fit) rfl ⟨rfl, rfl⟩ (by decide +kernel) ⟨by decide, by decide⟩ (ci := 3) rfl rfl rfl rfl rfl rfl (Nat.le_of_ble_eq_true rfl) ⟨Nat.zero_le _, Nat.zero_le _⟩ d_Ch_fillStretch_81) ?_
      obtain ⟨v3_9, ev3_9, h⟩ := nm_e' h
      refine gd_iinc X (v := v3_9) (lv' := [(3, .int v3_9), (0, .ref (a_self 0)), (1, .int v1), (2, .int v2)]) d_Ch_fillStretch_84 (k := 3) rfl (by rw [ev3_9]; rfl) (by decide) rfl ?_
      refine gd_goto X (tgt := 52) d_Ch_fillStretch_87 (by decide) ?_
      refine gd_loc (lv' := [(0, .ref (a_self 0)), (1, .int v1), (2, .int v2), (3, .int v3_9)]) [1, 2, 3, 0] rfl ?_
      exact hkb s_self_6 s_table_7 v3_9 h
def f_Ch_fillStretch_90 (N : Nat) (s_self s_grammar s_table : Nat → Nat → Int32) (v1 v2 : Int32) : Option ((Nat → Nat → Int32) × (Nat → Nat → Int32)) :=
  if (s_self 0 7) ≤ 0 then
    some (s_self, s_table)
  else
    bd1 (m_Ch_addUnitWays N s_self s_grammar v1 v2) fun s_self_2 =>
    bd1 (m_Ch_markEndless N s_self_2 v1 v2) fun s_self_4 =>
    bd1 (m_Ch_addUnitTrees N s_self_4 s_grammar s_table v1 v2) fun s_table_6 =>
    some (s_self_4, s_table_6)
set_option maxHeartbeats 4000000 in
set_option maxRecDepth 100000 in
theorem t_Ch_fillStretch_90 {p : Program} {l : Launch} {e : Env} {s : State} {m : MethodId} {args : Array Value} {below : List Frame} {meth : Method} {c : Code} {A : Nat → Prop} {D : va_G} {K : Nat → ClassId} (a_self a_grammar a_table : Nat → Nat) (X : gx p s m args c b_Ch_fillStretch 5 R_Ch w_Ch_fillStretch D classes (tyK K) A) (hr : meth.sig.returnType = none) (hlk : meth.locks = false) (N : Nat) (f_self f_table : Nat → Nat → Int32) (s_self s_grammar s_table : Nat → Nat → Int32) (v1 v2 : Int32) (h : f_Ch_fillStretch_90 N s_self s_grammar s_table v1 v2 = some (f_self, f_table)) : Gd p l e rm_Ch_fillStretch s m args below meth c 0 0 (MQ below (sq D classes (tyK K) none [wd_Ch K a_self (a_grammar 0) (a_table 0) f_self, wd_Gr K a_grammar s_grammar, wd_Tt K a_table f_table] A) args s 0 0 A) D classes A 5 90 [wd_Ch K a_self (a_grammar 0) (a_table 0) s_self, wd_Gr K a_grammar s_grammar, wd_Tt K a_table s_table] [(0, .ref (a_self 0)), (1, .int v1), (2, .int v2)] [] := by
  unfold f_Ch_fillStretch_90 at h
  refine gd_aload_n X d_Ch_fillStretch_90 0 rfl ?_
  refine gd_get X (ci := 3) (C := R_Ch) (T := F_Ch) (N := 12) (v := .int (s_self 0 7)) 0 0 rfl rfl rfl (in_Ch _) 7 (by decide) (List.mem_cons_of_mem _ fl_Ch_94) rfl rfl d_Ch_fillStretch_91 ?_
  refine gd_if_le X (tgt := 115) d_Ch_fillStretch_94 (by decide) (fun c_1 => ?_) (fun c_1 => ?_)
  · replace h := it_p c_1 h
    cases h
    exact gd_vret X hr hlk d_Ch_fillStretch_115
  · replace h := it_n c_1 h
    refine gd_aload_n X d_Ch_fillStretch_97 0 rfl ?_
    refine gd_iload_n X d_Ch_fillStretch_98 1 rfl ?_
    refine gd_iload_n X d_Ch_fillStretch_99 2 rfl ?_
    obtain ⟨s_self_2, hc_3, h⟩ := bd1_e h
    refine gd_cv X (gd_V X (As := [.int v1, .int v2]) (rest := []) (c_Ch_addUnitWays l D K a_self a_grammar a_table N s_self s_grammar v1 v2 s_self_2 hc_3) 2 (gi_V ml_Ch_124 u_Ch_addUnitWays) rfl ⟨rfl, rfl⟩ (by decide +kernel) ⟨by decide, by decide⟩ (ci := 3) rfl rfl rfl rfl rfl rfl (Nat.le_of_ble_eq_true rfl) ⟨Nat.zero_le _, Nat.zero_le _⟩ d_Ch_fillStretch_100) (w2 := [wd_Ch K a_self (a_grammar 0) (a_table 0) s_self_2, wd_Gr K a_grammar s_grammar, wd_Tt K a_table s_table]) [0, 1] [2] rfl rfl rfl rfl ⟨rfl, rfl⟩ rfl ?_
    refine gd_aload_n X d_Ch_fillStretch_103 0 rfl ?_
    refine gd_iload_n X d_Ch_fillStretch_104 1 rfl ?_
    refine gd_iload_n X d_Ch_fillStretch_105 2 rfl ?_
    obtain ⟨s_self_4, hc_5, h⟩ := bd1_e h
    refine gd_cv X (gd_V X (As := [.int v1, .int v2]) (rest := []) (c_Ch_markEndless l D K a_self a_grammar a_table N s_self_2 v1 v2 s_self_4 hc_5) 2 (gi_V ml_Ch_127 u_Ch_markEndless) rfl ⟨rfl, rfl⟩ (by decide +kernel) ⟨by decide, by decide⟩ (ci := 3) rfl rfl rfl rfl rfl rfl (Nat.le_of_ble_eq_true rfl) ⟨Nat.zero_le _, Nat.zero_le _⟩ d_Ch_fillStretch_106) (w2 := [wd_Ch K a_self (a_grammar 0) (a_table 0) s_self_4, wd_Gr K a_grammar s_grammar, wd_Tt K a_table s_table]) [0] [1, 2] rfl rfl rfl rfl ⟨rfl, rfl⟩ rfl ?_
    refine gd_aload_n X d_Ch_fillStretch_109 0 rfl ?_
    refine gd_iload_n X d_Ch_fillStretch_110 1 rfl ?_
    refine gd_iload_n X d_Ch_fillStretch_111 2 rfl ?_
    obtain ⟨s_table_6, hc_7, h⟩ := bd1_e h
    refine gd_fv X (w1 := [wd_Ch K a_self (a_grammar 0) (a_table 0) s_self_4, wd_Gr K a_grammar s_grammar, wd_Tt K a_table s_table_6]) (gd_V X (As := [.int v1, .int v2]) (rest := []) (c_Ch_addUnitTrees l D K a_self a_grammar a_table N s_self_4 s_grammar s_table v1 v2 s_table_6 hc_7) 2 (gi_V ml_Ch_130 u_Ch_addUnitTrees) rfl ⟨rfl, rfl⟩ (by decide +kernel) ⟨by decide, by decide⟩ (ci := 3) rfl rfl rfl rfl rfl rfl (Nat.le_of_ble_eq_true rfl) ⟨Nat.zero_le _, Nat.zero_le _⟩ d_Ch_fillStretch_112) ?_
    cases h
    exact gd_vret X hr hlk d_Ch_fillStretch_115
def l_Ch_fillStretch_52 (N : Nat) (s_grammar : Nat → Nat → Int32) (v1 v2 : Int32) (kx90 : (Nat → Nat → Int32) → (Nat → Nat → Int32) → Option ((Nat → Nat → Int32) × (Nat → Nat → Int32))) : Nat → (Nat → Nat → Int32) → (Nat → Nat → Int32) → Int32 → Option ((Nat → Nat → Int32) × (Nat → Nat → Int32))
  | 0, _, _, _ => none
  | n + 1, s_self, s_table, v3 => f_Ch_fillStretch_52 N (l_Ch_fillStretch_52 N s_grammar v1 v2 kx90 n) kx90 s_self s_grammar s_table v1 v2 v3
set_option maxHeartbeats 4000000 in
set_option maxRecDepth 100000 in
theorem tl_Ch_fillStretch_52 {p : Program} {l : Launch} {e : Env} {s : State} {m : MethodId} {args : Array Value} {below : List Frame} {meth : Method} {c : Code} {A : Nat → Prop} {D : va_G} {K : Nat → ClassId} (a_self a_grammar a_table : Nat → Nat) (X : gx p s m args c b_Ch_fillStretch 5 R_Ch w_Ch_fillStretch D classes (tyK K) A) (hr : meth.sig.returnType = none) (hlk : meth.locks = false) (N : Nat) (f_self f_table : Nat → Nat → Int32) (s_grammar : Nat → Nat → Int32) (v1 v2 : Int32) (kx90 : (Nat → Nat → Int32) → (Nat → Nat → Int32) → Option ((Nat → Nat → Int32) × (Nat → Nat → Int32))) (hkx90 : ∀ (s_self s_table : Nat → Nat → Int32), kx90 s_self s_table = some (f_self, f_table) → Gd p l e rm_Ch_fillStretch s m args below meth c 0 0 (MQ below (sq D classes (tyK K) none [wd_Ch K a_self (a_grammar 0) (a_table 0) f_self, wd_Gr K a_grammar s_grammar, wd_Tt K a_table f_table] A) args s 0 0 A) D classes A 5 90 [wd_Ch K a_self (a_grammar 0) (a_table 0) s_self, wd_Gr K a_grammar s_grammar, wd_Tt K a_table s_table] [(0, .ref (a_self 0)), (1, .int v1), (2, .int v2)] []) : ∀ (n : Nat) (s_self s_table : Nat → Nat → Int32) (v3 : Int32), l_Ch_fillStretch_52 N s_grammar v1 v2 kx90 n s_self s_table v3 = some (f_self, f_table) → Gd p l e rm_Ch_fillStretch s m args below meth c 0 0 (MQ below (sq D classes (tyK K) none [wd_Ch K a_self (a_grammar 0) (a_table 0) f_self, wd_Gr K a_grammar s_grammar, wd_Tt K a_table f_table] A) args s 0 0 A) D classes A 5 52 [wd_Ch K a_self (a_grammar 0) (a_table 0) s_self, wd_Gr K a_grammar s_grammar, wd_Tt K a_table s_table] [(0, .ref (a_self 0)), (1, .int v1), (2, .int v2), (3, .int v3)] [] := by
  intro n
  induction n with
  | zero => intro s_self s_table v3 h; have h : (none : Option ((Nat → Nat → Int32) × (Nat → Nat → Int32))) = some _ := h; cases h
  | succ n ih =>
    intro s_self s_table v3 h
    exact t_Ch_fillStretch_52 a_self a_grammar a_table X hr hlk N f_self f_table s_self s_grammar s_table v1 v2 v3 (l_Ch_fillStretch_52 N s_grammar v1 v2 kx90 n) ih kx90 hkx90 h
def f_Ch_fillStretch_38 (N : Nat) (s_self s_grammar s_table : Nat → Nat → Int32) (v1 v2 : Int32) : Option ((Nat → Nat → Int32) × (Nat → Nat → Int32)) :=
  if (v2 - v1) = 1 then
    bd2 (m_Ch_addLeaf N s_self s_grammar s_table v1) fun s_self_2 s_table_3 =>
    l_Ch_fillStretch_52 N s_grammar v1 v2 (fun s_self s_table => f_Ch_fillStretch_90 N s_self s_grammar s_table v1 v2) N s_self_2 s_table_3 0
  else
    l_Ch_fillStretch_52 N s_grammar v1 v2 (fun s_self s_table => f_Ch_fillStretch_90 N s_self s_grammar s_table v1 v2) N s_self s_table 0
set_option maxHeartbeats 4000000 in
set_option maxRecDepth 100000 in
theorem t_Ch_fillStretch_38 {p : Program} {l : Launch} {e : Env} {s : State} {m : MethodId} {args : Array Value} {below : List Frame} {meth : Method} {c : Code} {A : Nat → Prop} {D : va_G} {K : Nat → ClassId} (a_self a_grammar a_table : Nat → Nat) (X : gx p s m args c b_Ch_fillStretch 5 R_Ch w_Ch_fillStretch D classes (tyK K) A) (hr : meth.sig.returnType = none) (hlk : meth.locks = false) (N : Nat) (f_self f_table : Nat → Nat → Int32) (s_self s_grammar s_table : Nat → Nat → Int32) (v1 v2 : Int32) (h : f_Ch_fillStretch_38 N s_self s_grammar s_table v1 v2 = some (f_self, f_table)) : Gd p l e rm_Ch_fillStretch s m args below meth c 0 0 (MQ below (sq D classes (tyK K) none [wd_Ch K a_self (a_grammar 0) (a_table 0) f_self, wd_Gr K a_grammar s_grammar, wd_Tt K a_table f_table] A) args s 0 0 A) D classes A 5 38 [wd_Ch K a_self (a_grammar 0) (a_table 0) s_self, wd_Gr K a_grammar s_grammar, wd_Tt K a_table s_table] [(0, .ref (a_self 0)), (1, .int v1), (2, .int v2)] [] := by
  unfold f_Ch_fillStretch_38 at h
  refine gd_iload_n X d_Ch_fillStretch_38 2 rfl ?_
  refine gd_iload_n X d_Ch_fillStretch_39 1 rfl ?_
  refine gd_isub X d_Ch_fillStretch_40 ?_
  refine gd_iconst X (v := 1) d_Ch_fillStretch_41 (by decide) ?_
  refine gd_icmp_ne X (tgt := 50) d_Ch_fillStretch_42 (by decide) (fun c_1 => ?_) (fun c_1 => ?_)
  · replace h := it_n c_1 h
    refine gd_iconst X (v := 0) d_Ch_fillStretch_50 (by decide) ?_
    refine gd_istore_n X (lv' := [(3, .int 0), (0, .ref (a_self 0)), (1, .int v1), (2, .int v2)]) d_Ch_fillStretch_51 rfl (by decide) rfl ?_
    refine gd_loc (lv' := [(0, .ref (a_self 0)), (1, .int v1), (2, .int v2), (3, .int 0)]) [1, 2, 3, 0] rfl ?_
    exact tl_Ch_fillStretch_52 a_self a_grammar a_table X hr hlk N f_self f_table s_grammar v1 v2 (fun s_self s_table => f_Ch_fillStretch_90 N s_self s_grammar s_table v1 v2) (fun s_self s_table h => t_Ch_fillStretch_90 a_self a_grammar a_table X hr hlk N f_self f_table s_self s_grammar s_table v1 v2 h) N s_self s_table 0 h
  · replace h := it_p c_1 h
    refine gd_aload_n X d_Ch_fillStretch_45 0 rfl ?_
    refine gd_iload_n X d_Ch_fillStretch_46 1 rfl ?_
    obtain ⟨s_self_2, s_table_3, hc_4, h⟩ := bd2_e h
    refine gd_fv X (w1 := [wd_Ch K a_self (a_grammar 0) (a_table 0) s_self_2, wd_Gr K a_grammar s_grammar, wd_Tt K a_table s_table_3]) (gd_V X (As := [.int v1]) (rest := []) (c_Ch_addLeaf l D K a_self a_grammar a_table N s_self s_grammar s_table v1 s_self_2 s_table_3 hc_4) 1 (gi_V ml_Ch_117 u_Ch_addLeaf) rfl ⟨rfl, rfl⟩ (by decide +kernel) ⟨by decide, by decide⟩ (ci := 3) rfl rfl rfl rfl rfl rfl (Nat.le_of_ble_eq_true rfl) ⟨Nat.zero_le _, Nat.zero_le _⟩ d_Ch_fillStretch_47) ?_
    refine gd_iconst X (v := 0) d_Ch_fillStretch_50 (by decide) ?_
    refine gd_istore_n X (lv' := [(3, .int 0), (0, .ref (a_self 0)), (1, .int v1), (2, .int v2)]) d_Ch_fillStretch_51 rfl (by decide) rfl ?_
    refine gd_loc (lv' := [(0, .ref (a_self 0)), (1, .int v1), (2, .int v2), (3, .int 0)]) [1, 2, 3, 0] rfl ?_
    exact tl_Ch_fillStretch_52 a_self a_grammar a_table X hr hlk N f_self f_table s_grammar v1 v2 (fun s_self s_table => f_Ch_fillStretch_90 N s_self s_grammar s_table v1 v2) (fun s_self s_table h => t_Ch_fillStretch_90 a_self a_grammar a_table X hr hlk N f_self f_table s_self s_grammar s_table v1 v2 h) N s_self_2 s_table_3 0 h
def l_Ch_fillStretch_2 (N : Nat) (s_grammar : Nat → Nat → Int32) (v1 v2 : Int32) (kx38 : (Nat → Nat → Int32) → (Nat → Nat → Int32) → Option ((Nat → Nat → Int32) × (Nat → Nat → Int32))) : Nat → (Nat → Nat → Int32) → (Nat → Nat → Int32) → Int32 → Option ((Nat → Nat → Int32) × (Nat → Nat → Int32))
  | 0, _, _, _ => none
  | n + 1, s_self, s_table, v3 => f_Ch_fillStretch_2 N (l_Ch_fillStretch_2 N s_grammar v1 v2 kx38 n) kx38 s_self s_grammar s_table v1 v2 v3
set_option maxHeartbeats 4000000 in
set_option maxRecDepth 100000 in
theorem tl_Ch_fillStretch_2 {p : Program} {l : Launch} {e : Env} {s : State} {m : MethodId} {args : Array Value} {below : List Frame} {meth : Method} {c : Code} {A : Nat → Prop} {D : va_G} {K : Nat → ClassId} (a_self a_grammar a_table : Nat → Nat) (X : gx p s m args c b_Ch_fillStretch 5 R_Ch w_Ch_fillStretch D classes (tyK K) A) (hr : meth.sig.returnType = none) (hlk : meth.locks = false) (N : Nat) (f_self f_table : Nat → Nat → Int32) (s_grammar : Nat → Nat → Int32) (v1 v2 : Int32) (kx38 : (Nat → Nat → Int32) → (Nat → Nat → Int32) → Option ((Nat → Nat → Int32) × (Nat → Nat → Int32))) (hkx38 : ∀ (s_self s_table : Nat → Nat → Int32), kx38 s_self s_table = some (f_self, f_table) → Gd p l e rm_Ch_fillStretch s m args below meth c 0 0 (MQ below (sq D classes (tyK K) none [wd_Ch K a_self (a_grammar 0) (a_table 0) f_self, wd_Gr K a_grammar s_grammar, wd_Tt K a_table f_table] A) args s 0 0 A) D classes A 5 38 [wd_Ch K a_self (a_grammar 0) (a_table 0) s_self, wd_Gr K a_grammar s_grammar, wd_Tt K a_table s_table] [(0, .ref (a_self 0)), (1, .int v1), (2, .int v2)] []) : ∀ (n : Nat) (s_self s_table : Nat → Nat → Int32) (v3 : Int32), l_Ch_fillStretch_2 N s_grammar v1 v2 kx38 n s_self s_table v3 = some (f_self, f_table) → Gd p l e rm_Ch_fillStretch s m args below meth c 0 0 (MQ below (sq D classes (tyK K) none [wd_Ch K a_self (a_grammar 0) (a_table 0) f_self, wd_Gr K a_grammar s_grammar, wd_Tt K a_table f_table] A) args s 0 0 A) D classes A 5 2 [wd_Ch K a_self (a_grammar 0) (a_table 0) s_self, wd_Gr K a_grammar s_grammar, wd_Tt K a_table s_table] [(0, .ref (a_self 0)), (1, .int v1), (2, .int v2), (3, .int v3)] [] := by
  intro n
  induction n with
  | zero => intro s_self s_table v3 h; have h : (none : Option ((Nat → Nat → Int32) × (Nat → Nat → Int32))) = some _ := h; cases h
  | succ n ih =>
    intro s_self s_table v3 h
    exact t_Ch_fillStretch_2 a_self a_grammar a_table X hr hlk N f_self f_table s_self s_grammar s_table v1 v2 v3 (l_Ch_fillStretch_2 N s_grammar v1 v2 kx38 n) ih kx38 hkx38 h
def f_Ch_fillStretch_0 (N : Nat) (s_self s_grammar s_table : Nat → Nat → Int32) (v1 v2 : Int32) : Option ((Nat → Nat → Int32) × (Nat → Nat → Int32)) :=
  l_Ch_fillStretch_2 N s_grammar v1 v2 (fun s_self s_table => f_Ch_fillStretch_38 N s_self s_grammar s_table v1 v2) N s_self s_table 0
set_option maxHeartbeats 4000000 in
set_option maxRecDepth 100000 in
theorem t_Ch_fillStretch_0 {p : Program} {l : Launch} {e : Env} {s : State} {m : MethodId} {args : Array Value} {below : List Frame} {meth : Method} {c : Code} {A : Nat → Prop} {D : va_G} {K : Nat → ClassId} (a_self a_grammar a_table : Nat → Nat) (X : gx p s m args c b_Ch_fillStretch 5 R_Ch w_Ch_fillStretch D classes (tyK K) A) (hr : meth.sig.returnType = none) (hlk : meth.locks = false) (N : Nat) (f_self f_table : Nat → Nat → Int32) (s_self s_grammar s_table : Nat → Nat → Int32) (v1 v2 : Int32) (h : f_Ch_fillStretch_0 N s_self s_grammar s_table v1 v2 = some (f_self, f_table)) : Gd p l e rm_Ch_fillStretch s m args below meth c 0 0 (MQ below (sq D classes (tyK K) none [wd_Ch K a_self (a_grammar 0) (a_table 0) f_self, wd_Gr K a_grammar s_grammar, wd_Tt K a_table f_table] A) args s 0 0 A) D classes A 5 0 [wd_Ch K a_self (a_grammar 0) (a_table 0) s_self, wd_Gr K a_grammar s_grammar, wd_Tt K a_table s_table] [(0, .ref (a_self 0)), (1, .int v1), (2, .int v2)] [] := by
  unfold f_Ch_fillStretch_0 at h
  refine gd_iconst X (v := 0) d_Ch_fillStretch_0 (by decide) ?_
  refine gd_istore_n X (lv' := [(3, .int 0), (0, .ref (a_self 0)), (1, .int v1), (2, .int v2)]) d_Ch_fillStretch_1 rfl (by decide) rfl ?_
  refine gd_loc (lv' := [(0, .ref (a_self 0)), (1, .int v1), (2, .int v2), (3, .int 0)]) [1, 2, 3, 0] rfl ?_
  exact tl_Ch_fillStretch_2 a_self a_grammar a_table X hr hlk N f_self f_table s_grammar v1 v2 (fun s_self s_table => f_Ch_fillStretch_38 N s_self s_grammar s_table v1 v2) (fun s_self s_table h => t_Ch_fillStretch_38 a_self a_grammar a_table X hr hlk N f_self f_table s_self s_grammar s_table v1 v2 h) N s_self s_table 0 h
def m_Ch_fillStretch (N : Nat) (s_self s_grammar s_table : Nat → Nat → Int32) (v1 v2 : Int32) : Option ((Nat → Nat → Int32) × (Nat → Nat → Int32)) := f_Ch_fillStretch_0 N s_self s_grammar s_table v1 v2
set_option maxHeartbeats 4000000 in
set_option maxRecDepth 100000 in
theorem c_Ch_fillStretch (l : Launch) (D : va_G) (K : Nat → ClassId) (a_self a_grammar a_table : Nat → Nat) (N : Nat) (s_self s_grammar s_table : Nat → Nat → Int32) (v1 v2 : Int32) (f_self f_table : Nat → Nat → Int32) (h : m_Ch_fillStretch N s_self s_grammar s_table v1 v2 = some (f_self, f_table)) : SMet l y_Ch_fillStretch w_Ch_fillStretch rm_Ch_fillStretch D classes (tyK K) [.ref (a_self 0), .int v1, .int v2] none [wd_Ch K a_self (a_grammar 0) (a_table 0) s_self, wd_Gr K a_grammar s_grammar, wd_Tt K a_table s_table] [wd_Ch K a_self (a_grammar 0) (a_table 0) f_self, wd_Gr K a_grammar s_grammar, wd_Tt K a_table f_table] := by
  refine sm_of R_Ch (by decide) rfl rfl (Nat.le_of_ble_eq_true rfl) ?_
  intro p e s m below meth c A X hr hlk
  refine gd_loc (lv' := [(0, .ref (a_self 0)), (1, .int v1), (2, .int v2)]) [0, 1, 2] rfl ?_
  exact t_Ch_fillStretch_0 a_self a_grammar a_table X hr hlk N f_self f_table s_self s_grammar s_table v1 v2 h
