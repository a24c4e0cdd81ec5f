abbrev b_Gr_putSymbol : ByteArray := prog_3_method_17_code
def y_Gr_putSymbol : MethodName := ⟨R_Gr, "putSymbol", "(I)I"⟩
def w_Gr_putSymbol : List Cond := .code y_Gr_putSymbol b_Gr_putSymbol 4 (some .int) :: TB
theorem k_Gr_putSymbol : Cond.code y_Gr_putSymbol b_Gr_putSymbol 4 (some .int) ∈ TB := tb_of 324 (by decide +kernel) (by decide +kernel)
theorem d_Gr_putSymbol_0 : decode b_Gr_putSymbol 0 = .ok (.aload_n 0, 1) := by decide +kernel
theorem d_Gr_putSymbol_1 : decode b_Gr_putSymbol 1 = .ok (.getfield 57, 3) := by decide +kernel
theorem d_Gr_putSymbol_4 : decode b_Gr_putSymbol 4 = .ok (.ifCond .eq 20, 3) := by decide +kernel
theorem d_Gr_putSymbol_7 : decode b_Gr_putSymbol 7 = .ok (.aload_n 0, 1) := by decide +kernel
theorem d_Gr_putSymbol_8 : decode b_Gr_putSymbol 8 = .ok (.getfield 37, 3) := by decide +kernel
theorem d_Gr_putSymbol_11 : decode b_Gr_putSymbol 11 = .ok (.bipush 30, 2) := by decide +kernel
theorem d_Gr_putSymbol_13 : decode b_Gr_putSymbol 13 = .ok (.if_icmp .ge 11, 3) := by decide +kernel
theorem d_Gr_putSymbol_16 : decode b_Gr_putSymbol 16 = .ok (.aload_n 0, 1) := by decide +kernel
theorem d_Gr_putSymbol_17 : decode b_Gr_putSymbol 17 = .ok (.iload_n 1, 1) := by decide +kernel
theorem d_Gr_putSymbol_18 : decode b_Gr_putSymbol 18 = .ok (.invokevirtual 67, 3) := by decide +kernel
theorem d_Gr_putSymbol_21 : decode b_Gr_putSymbol 21 = .ok (.ifCond .ne 5, 3) := by decide +kernel
theorem d_Gr_putSymbol_24 : decode b_Gr_putSymbol 24 = .ok (.iconst (-1), 1) := by decide +kernel
theorem d_Gr_putSymbol_25 : decode b_Gr_putSymbol 25 = .ok (.ireturn, 1) := by decide +kernel
theorem d_Gr_putSymbol_26 : decode b_Gr_putSymbol 26 = .ok (.aload_n 0, 1) := by decide +kernel
theorem d_Gr_putSymbol_27 : decode b_Gr_putSymbol 27 = .ok (.getfield 18, 3) := by decide +kernel
theorem d_Gr_putSymbol_30 : decode b_Gr_putSymbol 30 = .ok (.aload_n 0, 1) := by decide +kernel
theorem d_Gr_putSymbol_31 : decode b_Gr_putSymbol 31 = .ok (.getfield 37, 3) := by decide +kernel
theorem d_Gr_putSymbol_34 : decode b_Gr_putSymbol 34 = .ok (.iaload, 1) := by decide +kernel
theorem d_Gr_putSymbol_35 : decode b_Gr_putSymbol 35 = .ok (.istore_n 2, 1) := by decide +kernel
theorem d_Gr_putSymbol_36 : decode b_Gr_putSymbol 36 = .ok (.iload_n 2, 1) := by decide +kernel
theorem d_Gr_putSymbol_37 : decode b_Gr_putSymbol 37 = .ok (.bipush 8, 2) := by decide +kernel
theorem d_Gr_putSymbol_39 : decode b_Gr_putSymbol 39 = .ok (.if_icmp .ge 15, 3) := by decide +kernel
theorem d_Gr_putSymbol_42 : decode b_Gr_putSymbol 42 = .ok (.iload_n 1, 1) := by decide +kernel
theorem d_Gr_putSymbol_43 : decode b_Gr_putSymbol 43 = .ok (.ifCond .ge 13, 3) := by decide +kernel
theorem d_Gr_putSymbol_46 : decode b_Gr_putSymbol 46 = .ok (.aload_n 0, 1) := by decide +kernel
theorem d_Gr_putSymbol_47 : decode b_Gr_putSymbol 47 = .ok (.getfield 64, 3) := by decide +kernel
theorem d_Gr_putSymbol_50 : decode b_Gr_putSymbol 50 = .ok (.iconst 4, 1) := by decide +kernel
theorem d_Gr_putSymbol_51 : decode b_Gr_putSymbol 51 = .ok (.if_icmp .lt 5, 3) := by decide +kernel
theorem d_Gr_putSymbol_54 : decode b_Gr_putSymbol 54 = .ok (.iconst (-1), 1) := by decide +kernel
theorem d_Gr_putSymbol_55 : decode b_Gr_putSymbol 55 = .ok (.ireturn, 1) := by decide +kernel
theorem d_Gr_putSymbol_56 : decode b_Gr_putSymbol 56 = .ok (.aload_n 0, 1) := by decide +kernel
theorem d_Gr_putSymbol_57 : decode b_Gr_putSymbol 57 = .ok (.getfield 37, 3) := by decide +kernel
theorem d_Gr_putSymbol_60 : decode b_Gr_putSymbol 60 = .ok (.bipush 8, 2) := by decide +kernel
theorem d_Gr_putSymbol_62 : decode b_Gr_putSymbol 62 = .ok (.imul, 1) := by decide +kernel
theorem d_Gr_putSymbol_63 : decode b_Gr_putSymbol 63 = .ok (.iload_n 2, 1) := by decide +kernel
theorem d_Gr_putSymbol_64 : decode b_Gr_putSymbol 64 = .ok (.iadd, 1) := by decide +kernel
theorem d_Gr_putSymbol_65 : decode b_Gr_putSymbol 65 = .ok (.istore_n 3, 1) := by decide +kernel
theorem d_Gr_putSymbol_66 : decode b_Gr_putSymbol 66 = .ok (.aload_n 0, 1) := by decide +kernel
theorem d_Gr_putSymbol_67 : decode b_Gr_putSymbol 67 = .ok (.getfield 24, 3) := by decide +kernel
theorem d_Gr_putSymbol_70 : decode b_Gr_putSymbol 70 = .ok (.iload_n 3, 1) := by decide +kernel
theorem d_Gr_putSymbol_71 : decode b_Gr_putSymbol 71 = .ok (.iload_n 1, 1) := by decide +kernel
theorem d_Gr_putSymbol_72 : decode b_Gr_putSymbol 72 = .ok (.ifCond .ge 11, 3) := by decide +kernel
theorem d_Gr_putSymbol_75 : decode b_Gr_putSymbol 75 = .ok (.aload_n 0, 1) := by decide +kernel
theorem d_Gr_putSymbol_76 : decode b_Gr_putSymbol 76 = .ok (.iload_n 1, 1) := by decide +kernel
theorem d_Gr_putSymbol_77 : decode b_Gr_putSymbol 77 = .ok (.invokevirtual 70, 3) := by decide +kernel
theorem d_Gr_putSymbol_80 : decode b_Gr_putSymbol 80 = .ok (.goto 4, 3) := by decide +kernel
theorem d_Gr_putSymbol_83 : decode b_Gr_putSymbol 83 = .ok (.iconst (-1), 1) := by decide +kernel
theorem d_Gr_putSymbol_84 : decode b_Gr_putSymbol 84 = .ok (.iastore, 1) := by decide +kernel
theorem d_Gr_putSymbol_85 : decode b_Gr_putSymbol 85 = .ok (.aload_n 0, 1) := by decide +kernel
theorem d_Gr_putSymbol_86 : decode b_Gr_putSymbol 86 = .ok (.getfield 21, 3) := by decide +kernel
theorem d_Gr_putSymbol_89 : decode b_Gr_putSymbol 89 = .ok (.iload_n 3, 1) := by decide +kernel
theorem d_Gr_putSymbol_90 : decode b_Gr_putSymbol 90 = .ok (.iload_n 1, 1) := by decide +kernel
theorem d_Gr_putSymbol_91 : decode b_Gr_putSymbol 91 = .ok (.iastore, 1) := by decide +kernel
theorem d_Gr_putSymbol_92 : decode b_Gr_putSymbol 92 = .ok (.aload_n 0, 1) := by decide +kernel
theorem d_Gr_putSymbol_93 : decode b_Gr_putSymbol 93 = .ok (.getfield 18, 3) := by decide +kernel
theorem d_Gr_putSymbol_96 : decode b_Gr_putSymbol 96 = .ok (.aload_n 0, 1) := by decide +kernel
theorem d_Gr_putSymbol_97 : decode b_Gr_putSymbol 97 = .ok (.getfield 37, 3) := by decide +kernel
theorem d_Gr_putSymbol_100 : decode b_Gr_putSymbol 100 = .ok (.iload_n 2, 1) := by decide +kernel
theorem d_Gr_putSymbol_101 : decode b_Gr_putSymbol 101 = .ok (.iconst 1, 1) := by decide +kernel
theorem d_Gr_putSymbol_102 : decode b_Gr_putSymbol 102 = .ok (.iadd, 1) := by decide +kernel
theorem d_Gr_putSymbol_103 : decode b_Gr_putSymbol 103 = .ok (.iastore, 1) := by decide +kernel
theorem d_Gr_putSymbol_104 : decode b_Gr_putSymbol 104 = .ok (.iload_n 1, 1) := by decide +kernel
theorem d_Gr_putSymbol_105 : decode b_Gr_putSymbol 105 = .ok (.ifCond .ge 13, 3) := by decide +kernel
theorem d_Gr_putSymbol_108 : decode b_Gr_putSymbol 108 = .ok (.aload_n 0, 1) := by decide +kernel
theorem d_Gr_putSymbol_109 : decode b_Gr_putSymbol 109 = .ok (.dup, 1) := by decide +kernel
theorem d_Gr_putSymbol_110 : decode b_Gr_putSymbol 110 = .ok (.getfield 64, 3) := by decide +kernel
theorem d_Gr_putSymbol_113 : decode b_Gr_putSymbol 113 = .ok (.iconst 1, 1) := by decide +kernel
theorem d_Gr_putSymbol_114 : decode b_Gr_putSymbol 114 = .ok (.iadd, 1) := by decide +kernel
theorem d_Gr_putSymbol_115 : decode b_Gr_putSymbol 115 = .ok (.putfield 64, 3) := by decide +kernel
theorem d_Gr_putSymbol_118 : decode b_Gr_putSymbol 118 = .ok (.iload_n 2, 1) := by decide +kernel
theorem d_Gr_putSymbol_119 : decode b_Gr_putSymbol 119 = .ok (.iconst 1, 1) := by decide +kernel
theorem d_Gr_putSymbol_120 : decode b_Gr_putSymbol 120 = .ok (.iadd, 1) := by decide +kernel
theorem d_Gr_putSymbol_121 : decode b_Gr_putSymbol 121 = .ok (.ireturn, 1) := by decide +kernel
theorem ml_Gr_70 : Cond.methodLink R_Gr 70 ⟨"RuleTrees$Grammar", "slotInBegun", "(I)I"⟩ ∈ TB := tb_of 329 (by decide +kernel) (by decide +kernel)
theorem u_Gr_slotInBegun : (Cond.instanceMethod y_Gr_slotInBegun ∈ TB ∧ Cond.selects R_Gr y_Gr_slotInBegun y_Gr_slotInBegun ∈ TB) ∧ Cond.initialized R_Gr ∈ TB ∧ Cond.code y_Gr_slotInBegun b_Gr_slotInBegun 4 (some .int) ∈ TB := ⟨⟨(tb_of 331 (by decide +kernel) (by decide +kernel)), (tb_of 0 (by decide +kernel) (by decide +kernel))⟩, (tb_of 63 (by decide +kernel) (by decide +kernel)), k_Gr_slotInBegun⟩
theorem ml_Gr_67 : Cond.methodLink R_Gr 67 ⟨"RuleTrees$Grammar", "hasSymbol", "(I)Z"⟩ ∈ TB := tb_of 325 (by decide +kernel) (by decide +kernel)
theorem u_Gr_hasSymbol : (Cond.instanceMethod y_Gr_hasSymbol ∈ TB ∧ Cond.selects R_Gr y_Gr_hasSymbol y_Gr_hasSymbol ∈ TB) ∧ Cond.initialized R_Gr ∈ TB ∧ Cond.code y_Gr_hasSymbol b_Gr_hasSymbol 2 (some .boolean) ∈ TB := ⟨⟨(tb_of 326 (by decide +kernel) (by decide +kernel)), (tb_of 327 (by decide +kernel) (by decide +kernel))⟩, (tb_of 63 (by decide +kernel) (by decide +kernel)), k_Gr_hasSymbol⟩
abbrev rm_Gr_putSymbol : Room := { frames := 1, cells := 0, slots := 0, locals := 23 }
def f_Gr_putSymbol_84 (N : Nat) (s_self : Nat → Nat → Int32) (v1 v2 v3 : Int32) (k1 : Int32) (k2 : Int32) : Option ((Int32) × (Nat → Nat → Int32)) :=
  ck k1 240 <| nm (st2 s_self 5 (Int32.toNatClampNeg k1) k2) fun s_self_2 =>
  ck v3 240 <| nm (st2 s_self_2 4 (Int32.toNatClampNeg v3) v1) fun s_self_4 =>
  ck (s_self_4 0 2) 30 <| nm (st2 s_self_4 3 (Int32.toNatClampNeg (s_self_4 0 2)) (v2 + 1)) fun s_self_6 =>
  if 0 ≤ v1 then
    some ((v2 + 1), s_self_6)
  else
    nm (st2 s_self_6 0 4 ((s_self_6 0 4) + 1)) fun s_self_8 =>
    some ((v2 + 1), s_self_8)
set_option maxHeartbeats 4000000 in
set_option maxRecDepth 100000 in
theorem t_Gr_putSymbol_84 {p : Program} {l : Launch} {e : Env} {s : State} {m : MethodId} {args : Array Value} {below : List Frame} {meth : Method} {c : Code} {A : Nat → Prop} {D : va_G} {K : Nat → ClassId} (a_self : Nat → Nat) (X : gx p s m args c b_Gr_putSymbol 4 R_Gr w_Gr_putSymbol D classes (tyK K) A) (hr : meth.sig.returnType = some .int) (hlk : meth.locks = false) (N : Nat) (r : Int32) (f_self : Nat → Nat → Int32) (s_self : Nat → Nat → Int32) (v1 v2 v3 : Int32) (k1 : Int32) (k2 : Int32) (h : f_Gr_putSymbol_84 N s_self v1 v2 v3 k1 k2 = some (r, f_self)) : Gd p l e rm_Gr_putSymbol s m args below meth c 0 0 (MQ below (sq D classes (tyK K) (some (.int r)) [wd_Gr K a_self f_self] A) args s 0 0 A) D classes A 4 84 [wd_Gr K a_self s_self] [(0, .ref (a_self 0)), (1, .int v1), (2, .int v2), (3, .int v3)] [.int k2, .int k1, .ref (a_self 5)] := by
  unfold f_Gr_putSymbol_84 at h
  obtain ⟨hi_1, h⟩ := ck_e h
  obtain ⟨s_self_2, es_self_2, h⟩ := nm_e' h
  refine gd_iast X (w' := [wd_Gr K a_self s_self_2]) 0 5 0 rfl rfl rfl hi_1 d_Gr_putSymbol_84 (by rw [es_self_2]; rfl) ?_
  refine gd_aload_n X d_Gr_putSymbol_85 0 rfl ?_
  refine gd_get X (ci := 1) (C := R_Gr) (T := F_Gr) (N := 12) (v := .ref (a_self 4)) 0 0 rfl rfl rfl (in_Gr _) 8 (by decide) (List.mem_cons_of_mem _ fl_Gr_21) rfl rfl d_Gr_putSymbol_86 ?_
  refine gd_iload_n X d_Gr_putSymbol_89 3 rfl ?_
  refine gd_iload_n X d_Gr_putSymbol_90 1 rfl ?_
  obtain ⟨hi_3, h⟩ := ck_e h
  obtain ⟨s_self_4, es_self_4, h⟩ := nm_e' h
  refine gd_iast X (w' := [wd_Gr K a_self s_self_4]) 0 4 0 rfl rfl rfl hi_3 d_Gr_putSymbol_91 (by rw [es_self_4]; rfl) ?_
  refine gd_aload_n X d_Gr_putSymbol_92 0 rfl ?_
  refine gd_get X (ci := 1) (C := R_Gr) (T := F_Gr) (N := 12) (v := .ref (a_self 3)) 0 0 rfl rfl rfl (in_Gr _) 7 (by decide) (List.mem_cons_of_mem _ fl_Gr_18) rfl rfl d_Gr_putSymbol_93 ?_
  refine gd_aload_n X d_Gr_putSymbol_96 0 rfl ?_
  refine gd_get X (ci := 1) (C := R_Gr) (T := F_Gr) (N := 12) (v := .int (s_self_4 0 2)) 0 0 rfl rfl rfl (in_Gr _) 2 (by decide) (List.mem_cons_of_mem _ fl_Gr_37) rfl rfl d_Gr_putSymbol_97 ?_
  refine gd_iload_n X d_Gr_putSymbol_100 2 rfl ?_
  refine gd_iconst X (v := 1) d_Gr_putSymbol_101 (by decide) ?_
  refine gd_iadd X d_Gr_putSymbol_102 ?_
  obtain ⟨hi_5, h⟩ := ck_e h
  obtain ⟨s_self_6, es_self_6, h⟩ := nm_e' h
  refine gd_iast X (w' := [wd_Gr K a_self s_self_6]) 0 3 0 rfl rfl rfl hi_5 d_Gr_putSymbol_103 (by rw [es_self_6]; rfl) ?_
  refine gd_iload_n X d_Gr_putSymbol_104 1 rfl ?_
  refine gd_if_ge X (tgt := 118) d_Gr_putSymbol_105 (by decide) (fun c_7 => ?_) (fun c_7 => ?_)
  · replace h := it_p c_7 h
    refine gd_iload_n X d_Gr_putSymbol_118 2 rfl ?_
    refine gd_iconst X (v := 1) d_Gr_putSymbol_119 (by decide) ?_
    refine gd_iadd X d_Gr_putSymbol_120 ?_
    cases h
    exact gd_iret X hr hlk d_Gr_putSymbol_121
  · replace h := it_n c_7 h
    refine gd_aload_n X d_Gr_putSymbol_108 0 rfl ?_
    refine gd_dup X d_Gr_putSymbol_109 rfl ?_
    refine gd_get X (ci := 1) (C := R_Gr) (T := F_Gr) (N := 12) (v := .int (s_self_6 0 4)) 0 0 rfl rfl rfl (in_Gr _) 4 (by decide) (List.mem_cons_of_mem _ fl_Gr_64) rfl rfl d_Gr_putSymbol_110 ?_
    refine gd_iconst X (v := 1) d_Gr_putSymbol_113 (by decide) ?_
    refine gd_iadd X d_Gr_putSymbol_114 ?_
    obtain ⟨s_self_8, es_self_8, h⟩ := nm_e' h
    refine gd_put X (ci := 1) (C := R_Gr) (T := F_Gr) (N := 12) (ty := .int) (w' := [wd_Gr K a_self s_self_8]) 0 0 rfl rfl rfl (in_Gr _) t_Gr t_Gr_ok n_Gr 4 (by decide) (List.mem_cons_of_mem _ fl_Gr_64) rfl rfl (by decide +kernel) rfl rfl (Nat.le_of_ble_eq_true rfl) d_Gr_putSymbol_115 (by rw [es_self_8]; rfl) ?_
    refine gd_iload_n X d_Gr_putSymbol_118 2 rfl ?_
    refine gd_iconst X (v := 1) d_Gr_putSymbol_119 (by decide) ?_
    refine gd_iadd X d_Gr_putSymbol_120 ?_
    cases h
    exact gd_iret X hr hlk d_Gr_putSymbol_121
def f_Gr_putSymbol_56 (N : Nat) (s_self : Nat → Nat → Int32) (v1 v2 : Int32) : Option ((Int32) × (Nat → Nat → Int32)) :=
  nm (((s_self 0 2) * 8) + v2) fun v3_1 =>
  if 0 ≤ v1 then
    f_Gr_putSymbol_84 N s_self v1 v2 v3_1 v3_1 (-1)
  else
    bd2 (m_Gr_slotInBegun N s_self v1) fun r_3 s_self_4 =>
    f_Gr_putSymbol_84 N s_self_4 v1 v2 v3_1 v3_1 r_3
set_option maxHeartbeats 4000000 in
set_option maxRecDepth 100000 in
theorem t_Gr_putSymbol_56 {p : Program} {l : Launch} {e : Env} {s : State} {m : MethodId} {args : Array Value} {below : List Frame} {meth : Method} {c : Code} {A : Nat → Prop} {D : va_G} {K : Nat → ClassId} (a_self : Nat → Nat) (X : gx p s m args c b_Gr_putSymbol 4 R_Gr w_Gr_putSymbol D classes (tyK K) A) (hr : meth.sig.returnType = some .int) (hlk : meth.locks = false) (N : Nat) (r : Int32) (f_self : Nat → Nat → Int32) (s_self : Nat → Nat → Int32) (v1 v2 : Int32) (h : f_Gr_putSymbol_56 N s_self v1 v2 = some (r, f_self)) : Gd p l e rm_Gr_putSymbol s m args below meth c 0 0 (MQ below (sq D classes (tyK K) (some (.int r)) [wd_Gr K a_self f_self] A) args s 0 0 A) D classes A 4 56 [wd_Gr K a_self s_self] [(0, .ref (a_self 0)), (1, .int v1), (2, .int v2)] [] := by
  unfold f_Gr_putSymbol_56 at h
  refine gd_aload_n X d_Gr_putSymbol_56 0 rfl ?_
  refine gd_get X (ci := 1) (C := R_Gr) (T := F_Gr) (N := 12) (v := .int (s_self 0 2)) 0 0 rfl rfl rfl (in_Gr _) 2 (by decide) (List.mem_cons_of_mem _ fl_Gr_37) rfl rfl d_Gr_putSymbol_57 ?_
  refine gd_bipush X (v := 8) d_Gr_putSymbol_60 (by decide) ?_
  refine gd_imul X d_Gr_putSymbol_62 ?_
  refine gd_iload_n X d_Gr_putSymbol_63 2 rfl ?_
  refine gd_iadd X d_Gr_putSymbol_64 ?_
  obtain ⟨v3_1, ev3_1, h⟩ := nm_e' h
  refine gd_topi ev3_1 ?_
  refine gd_istore_n X (lv' := [(3, .int v3_1), (0, .ref (a_self 0)), (1, .int v1), (2, .int v2)]) d_Gr_putSymbol_65 rfl (by decide) rfl ?_
  refine gd_aload_n X d_Gr_putSymbol_66 1 rfl ?_
  refine gd_get X (ci := 1) (C := R_Gr) (T := F_Gr) (N := 12) (v := .ref (a_self 5)) 0 0 rfl rfl rfl (in_Gr _) 9 (by decide) (List.mem_cons_of_mem _ fl_Gr_24) rfl rfl d_Gr_putSymbol_67 ?_
  refine gd_iload_n X d_Gr_putSymbol_70 0 rfl ?_
  refine gd_iload_n X d_Gr_putSymbol_71 2 rfl ?_
  refine gd_if_ge X (tgt := 83) d_Gr_putSymbol_72 (by decide) (fun c_2 => ?_) (fun c_2 => ?_)
  · replace h := it_p c_2 h
    refine gd_iconst X (v := (-1)) d_Gr_putSymbol_83 (by decide) ?_
    refine gd_loc (lv' := [(0, .ref (a_self 0)), (1, .int v1), (2, .int v2), (3, .int v3_1)]) [1, 2, 3, 0] rfl ?_
    exact t_Gr_putSymbol_84 a_self X hr hlk N r f_self s_self v1 v2 v3_1 v3_1 (-1) h
  · replace h := it_n c_2 h
    refine gd_aload_n X d_Gr_putSymbol_75 1 rfl ?_
    refine gd_iload_n X d_Gr_putSymbol_76 2 rfl ?_
    obtain ⟨r_3, s_self_4, hc_5, h⟩ := bd2_e h
    refine gd_fI X (w1 := [wd_Gr K a_self s_self_4]) (gd_V X (As := [.int v1]) (rest := [.int v3_1, .ref (a_self 5)]) (c_Gr_slotInBegun l D K a_self N s_self v1 r_3 s_self_4 hc_5) 1 (gi_V ml_Gr_70 u_Gr_slotInBegun) rfl ⟨rfl, rfl⟩ (by decide +kernel) ⟨by decide, by decide⟩ (ci := 1) rfl rfl rfl rfl rfl rfl (Nat.le_of_ble_eq_true rfl) ⟨Nat.zero_le _, Nat.zero_le _⟩ d_Gr_putSymbol_77) ?_
    refine gd_goto X (tgt := 84) d_Gr_putSymbol_80 (by decide) ?_
    refine gd_loc (lv' := [(0, .ref (a_self 0)), (1, .int v1), (2, .int v2), (3, .int v3_1)]) [1, 2, 3, 0] rfl ?_
    exact t_Gr_putSymbol_84 a_self X hr hlk N r f_self s_self_4 v1 v2 v3_1 v3_1 r_3 h
def f_Gr_putSymbol_0 (N : Nat) (s_self : Nat → Nat → Int32) (v1 : Int32) : Option ((Int32) × (Nat → Nat → Int32)) :=
  if (s_self 0 3) = 0 then
    some (((-1)), s_self)
  else
    if 30 ≤ (s_self 0 2) then
      some (((-1)), s_self)
    else
      bd1 (m_Gr_hasSymbol s_self v1) fun r_3 =>
      if r_3 = 0 then
        some (((-1)), s_self)
      else
        ck (s_self 0 2) 30 <|
        nm (s_self 3 (Int32.toNatClampNeg (s_self 0 2))) fun v2_7 =>
        if 8 ≤ v2_7 then
          some (((-1)), s_self)
        else
          if 0 ≤ v1 then
            f_Gr_putSymbol_56 N s_self v1 v2_7
          else
            if (s_self 0 4) < 4 then
              f_Gr_putSymbol_56 N s_self v1 v2_7
            else
              some (((-1)), s_self)
set_option maxHeartbeats 4000000 in
set_option maxRecDepth 100000 in
theorem t_Gr_putSymbol_0 {p : Program} {l : Launch} {e : Env} {s : State} {m : MethodId} {args : Array Value} {below : List Frame} {meth : Method} {c : Code} {A : Nat → Prop} {D : va_G} {K : Nat → ClassId} (a_self : Nat → Nat) (X : gx p s m args c b_Gr_putSymbol 4 R_Gr w_Gr_putSymbol D classes (tyK K) A) (hr : meth.sig.returnType = some .int) (hlk : meth.locks = false) (N : Nat) (r : Int32) (f_self : Nat → Nat → Int32) (s_self : Nat → Nat → Int32) (v1 : Int32) (h : f_Gr_putSymbol_0 N s_self v1 = some (r, f_self)) : Gd p l e rm_Gr_putSymbol s m args below meth c 0 0 (MQ below (sq D classes (tyK K) (some (.int r)) [wd_Gr K a_self f_self] A) args s 0 0 A) D classes A 4 0 [wd_Gr K a_self s_self] [(0, .ref (a_self 0)), (1, .int v1)] [] := by
  unfold f_Gr_putSymbol_0 at h
  refine gd_aload_n X d_Gr_putSymbol_0 0 rfl ?_
  refine gd_get X (ci := 1) (C := R_Gr) (T := F_Gr) (N := 12) (v := .int (s_self 0 3)) 0 0 rfl rfl rfl (in_Gr _) 3 (by decide) (List.mem_cons_of_mem _ fl_Gr_57) rfl rfl d_Gr_putSymbol_1 ?_
  refine gd_if_eq X (tgt := 24) d_Gr_putSymbol_4 (by decide) (fun c_1 => ?_) (fun c_1 => ?_)
  · replace h := it_p c_1 h
    refine gd_iconst X (v := (-1)) d_Gr_putSymbol_24 (by decide) ?_
    cases h
    exact gd_iret X hr hlk d_Gr_putSymbol_25
  · replace h := it_n c_1 h
    refine gd_aload_n X d_Gr_putSymbol_7 0 rfl ?_
    refine gd_get X (ci := 1) (C := R_Gr) (T := F_Gr) (N := 12) (v := .int (s_self 0 2)) 0 0 rfl rfl rfl (in_Gr _) 2 (by decide) (List.mem_cons_of_mem _ fl_Gr_37) rfl rfl d_Gr_putSymbol_8 ?_
    refine gd_bipush X (v := 30) d_Gr_putSymbol_11 (by decide) ?_
    refine gd_icmp_ge X (tgt := 24) d_Gr_putSymbol_13 (by decide) (fun c_2 => ?_) (fun c_2 => ?_)
    · replace h := it_p c_2 h
      refine gd_iconst X (v := (-1)) d_Gr_putSymbol_24 (by decide) ?_
      cases h
      exact gd_iret X hr hlk d_Gr_putSymbol_25
    · replace h := it_n c_2 h
      refine gd_aload_n X d_Gr_putSymbol_16 0 rfl ?_
      refine gd_iload_n X d_Gr_putSymbol_17 1 rfl ?_
      obtain ⟨r_3, hc_4, h⟩ := bd1_e h
      refine gd_fI X (gd_V X (As := [.int v1]) (rest := []) (c_Gr_hasSymbol l D K a_self s_self v1 r_3 hc_4) 1 (gi_V ml_Gr_67 u_Gr_hasSymbol) rfl ⟨rfl, rfl⟩ (by decide +kernel) ⟨by decide, by decide⟩ (ci := 1) rfl rfl rfl rfl rfl rfl (Nat.le_of_ble_eq_true rfl) ⟨Nat.zero_le _, Nat.zero_le _⟩ d_Gr_putSymbol_18) ?_
      refine gd_if_ne X (tgt := 26) d_Gr_putSymbol_21 (by decide) (fun c_5 => ?_) (fun c_5 => ?_)
      · replace h := it_n c_5 h
        refine gd_aload_n X d_Gr_putSymbol_26 0 rfl ?_
        refine gd_get X (ci := 1) (C := R_Gr) (T := F_Gr) (N := 12) (v := .ref (a_self 3)) 0 0 rfl rfl rfl (in_Gr _) 7 (by decide) (List.mem_cons_of_mem _ fl_Gr_18) rfl rfl d_Gr_putSymbol_27 ?_
        refine gd_aload_n X d_Gr_putSymbol_30 0 rfl ?_
        refine gd_get X (ci := 1) (C := R_Gr) (T := F_Gr) (N := 12) (v := .int (s_self 0 2)) 0 0 rfl rfl rfl (in_Gr _) 2 (by decide) (List.mem_cons_of_mem _ fl_Gr_37) rfl rfl d_Gr_putSymbol_31 ?_
        obtain ⟨hi_6, h⟩ := ck_e h
        refine gd_iald X 0 3 0 rfl rfl rfl hi_6 d_Gr_putSymbol_34 ?_
        obtain ⟨v2_7, ev2_7, h⟩ := nm_e' h
        refine gd_topi ev2_7 ?_
        refine gd_istore_n X (lv' := [(2, .int v2_7), (0, .ref (a_self 0)), (1, .int v1)]) d_Gr_putSymbol_35 rfl (by decide) rfl ?_
        refine gd_iload_n X d_Gr_putSymbol_36 0 rfl ?_
        refine gd_bipush X (v := 8) d_Gr_putSymbol_37 (by decide) ?_
        refine gd_icmp_ge X (tgt := 54) d_Gr_putSymbol_39 (by decide) (fun c_8 => ?_) (fun c_8 => ?_)
        · replace h := it_p c_8 h
          refine gd_iconst X (v := (-1)) d_Gr_putSymbol_54 (by decide) ?_
          cases h
          exact gd_iret X hr hlk d_Gr_putSymbol_55
        · replace h := it_n c_8 h
          refine gd_iload_n X d_Gr_putSymbol_42 2 rfl ?_
          refine gd_if_ge X (tgt := 56) d_Gr_putSymbol_43 (by decide) (fun c_9 => ?_) (fun c_9 => ?_)
          · replace h := it_p c_9 h
            refine gd_loc (lv' := [(0, .ref (a_self 0)), (1, .int v1), (2, .int v2_7)]) [1, 2, 0] rfl ?_
            exact t_Gr_putSymbol_56 a_self X hr hlk N r f_self s_self v1 v2_7 h
          · replace h := it_n c_9 h
            refine gd_aload_n X d_Gr_putSymbol_46 1 rfl ?_
            refine gd_get X (ci := 1) (C := R_Gr) (T := F_Gr) (N := 12) (v := .int (s_self 0 4)) 0 0 rfl rfl rfl (in_Gr _) 4 (by decide) (List.mem_cons_of_mem _ fl_Gr_64) rfl rfl d_Gr_putSymbol_47 ?_
            refine gd_iconst X (v := 4) d_Gr_putSymbol_50 (by decide) ?_
            refine gd_icmp_lt X (tgt := 56) d_Gr_putSymbol_51 (by decide) (fun c_10 => ?_) (fun c_10 => ?_)
            · replace h := it_p c_10 h
              refine gd_loc (lv' := [(0, .ref (a_self 0)), (1, .int v1), (2, .int v2_7)]) [1, 2, 0] rfl ?_
              exact t_Gr_putSymbol_56 a_self X hr hlk N r f_self s_self v1 v2_7 h
            · replace h := it_n c_10 h
              refine gd_iconst X (v := (-1)) d_Gr_putSymbol_54 (by decide) ?_
              cases h
              exact gd_iret X hr hlk d_Gr_putSymbol_55
      · replace h := it_p c_5 h
        refine gd_iconst X (v := (-1)) d_Gr_putSymbol_24 (by decide) ?_
        cases h
        exact gd_iret X hr hlk d_Gr_putSymbol_25
def m_Gr_putSymbol (N : Nat) (s_self : Nat → Nat → Int32) (v1 : Int32) : Option ((Int32) × (Nat → Nat → Int32)) := f_Gr_putSymbol_0 N s_self v1
set_option maxHeartbeats 4000000 in
set_option maxRecDepth 100000 in
theorem c_Gr_putSymbol (l : Launch) (D : va_G) (K : Nat → ClassId) (a_self : Nat → Nat) (N : Nat) (s_self : Nat → Nat → Int32) (v1 : Int32) (r : Int32) (f_self : Nat → Nat → Int32) (h : m_Gr_putSymbol N s_self v1 = some (r, f_self)) : SMet l y_Gr_putSymbol w_Gr_putSymbol rm_Gr_putSymbol D classes (tyK K) [.ref (a_self 0), .int v1] (some (.int r)) [wd_Gr K a_self s_self] [wd_Gr K a_self f_self] := by
  refine sm_of R_Gr (by decide) rfl rfl (Nat.le_of_ble_eq_true rfl) ?_
  intro p e s m below meth c A X hr hlk
  refine gd_loc (lv' := [(0, .ref (a_self 0)), (1, .int v1)]) [0, 1] rfl ?_
  exact t_Gr_putSymbol_0 a_self X hr hlk N r f_self s_self v1 h
abbrev b_Gr_closeRule : ByteArray := prog_3_method_18_code
def y_Gr_closeRule : MethodName := ⟨R_Gr, "closeRule", "()I"⟩
def w_Gr_closeRule : List Cond := .code y_Gr_closeRule b_Gr_closeRule 1 (some .int) :: TB
theorem k_Gr_closeRule : Cond.code y_Gr_closeRule b_Gr_closeRule 1 (some .int) ∈ TB := tb_of 340 (by decide +kernel) (by decide +kernel)
theorem d_Gr_closeRule_0 : decode b_Gr_closeRule 0 = .ok (.aload_n 0, 1) := by decide +kernel
theorem d_Gr_closeRule_1 : decode b_Gr_closeRule 1 = .ok (.getfield 57, 3) := by decide +kernel
theorem d_Gr_closeRule_4 : decode b_Gr_closeRule 4 = .ok (.ifCond .eq 10, 3) := by decide +kernel
theorem d_Gr_closeRule_7 : decode b_Gr_closeRule 7 = .ok (.aload_n 0, 1) := by decide +kernel
theorem d_Gr_closeRule_8 : decode b_Gr_closeRule 8 = .ok (.invokevirtual 73, 3) := by decide +kernel
theorem d_Gr_closeRule_11 : decode b_Gr_closeRule 11 = .ok (.ifCond .ne 5, 3) := by decide +kernel
theorem d_Gr_closeRule_14 : decode b_Gr_closeRule 14 = .ok (.iconst (-1), 1) := by decide +kernel
theorem d_Gr_closeRule_15 : decode b_Gr_closeRule 15 = .ok (.ireturn, 1) := by decide +kernel
theorem d_Gr_closeRule_16 : decode b_Gr_closeRule 16 = .ok (.aload_n 0, 1) := by decide +kernel
theorem d_Gr_closeRule_17 : decode b_Gr_closeRule 17 = .ok (.iconst 0, 1) := by decide +kernel
theorem d_Gr_closeRule_18 : decode b_Gr_closeRule 18 = .ok (.putfield 57, 3) := by decide +kernel
theorem d_Gr_closeRule_21 : decode b_Gr_closeRule 21 = .ok (.aload_n 0, 1) := by decide +kernel
theorem d_Gr_closeRule_22 : decode b_Gr_closeRule 22 = .ok (.dup, 1) := by decide +kernel
theorem d_Gr_closeRule_23 : decode b_Gr_closeRule 23 = .ok (.getfield 37, 3) := by decide +kernel
theorem d_Gr_closeRule_26 : decode b_Gr_closeRule 26 = .ok (.iconst 1, 1) := by decide +kernel
theorem d_Gr_closeRule_27 : decode b_Gr_closeRule 27 = .ok (.iadd, 1) := by decide +kernel
theorem d_Gr_closeRule_28 : decode b_Gr_closeRule 28 = .ok (.putfield 37, 3) := by decide +kernel
theorem d_Gr_closeRule_31 : decode b_Gr_closeRule 31 = .ok (.aload_n 0, 1) := by decide +kernel
theorem d_Gr_closeRule_32 : decode b_Gr_closeRule 32 = .ok (.getfield 37, 3) := by decide +kernel
theorem d_Gr_closeRule_35 : decode b_Gr_closeRule 35 = .ok (.iconst 1, 1) := by decide +kernel
theorem d_Gr_closeRule_36 : decode b_Gr_closeRule 36 = .ok (.isub, 1) := by decide +kernel
theorem d_Gr_closeRule_37 : decode b_Gr_closeRule 37 = .ok (.ireturn, 1) := by decide +kernel
theorem ml_Gr_73 : Cond.methodLink R_Gr 73 ⟨"RuleTrees$Grammar", "begunLength", "()I"⟩ ∈ TB := tb_of 341 (by decide +kernel) (by decide +kernel)
theorem u_Gr_begunLength : (Cond.instanceMethod y_Gr_begunLength ∈ TB ∧ Cond.selects R_Gr y_Gr_begunLength y_Gr_begunLength ∈ TB) ∧ Cond.initialized R_Gr ∈ TB ∧ Cond.code y_Gr_begunLength b_Gr_begunLength 1 (some .int) ∈ TB := ⟨⟨(tb_of 342 (by decide +kernel) (by decide +kernel)), (tb_of 343 (by decide +kernel) (by decide +kernel))⟩, (tb_of 63 (by decide +kernel) (by decide +kernel)), k_Gr_begunLength⟩
abbrev rm_Gr_closeRule : Room := { frames := 1, cells := 0, slots := 0, locals := 20 }
def f_Gr_closeRule_0 (s_self : Nat → Nat → Int32) : Option ((Int32) × (Nat → Nat → Int32)) :=
  if (s_self 0 3) = 0 then
    some (((-1)), s_self)
  else
    bd1 (m_Gr_begunLength s_self) fun r_2 =>
    if r_2 = 0 then
      some (((-1)), s_self)
    else
      nm (st2 s_self 0 3 0) fun s_self_5 =>
      nm (st2 s_self_5 0 2 ((s_self_5 0 2) + 1)) fun s_self_6 =>
      some (((s_self_6 0 2) - 1), s_self_6)
set_option maxHeartbeats 4000000 in
set_option maxRecDepth 100000 in
theorem t_Gr_closeRule_0 {p : Program} {l : Launch} {e : Env} {s : State} {m : MethodId} {args : Array Value} {below : List Frame} {meth : Method} {c : Code} {A : Nat → Prop} {D : va_G} {K : Nat → ClassId} (a_self : Nat → Nat) (X : gx p s m args c b_Gr_closeRule 1 R_Gr w_Gr_closeRule D classes (tyK K) A) (hr : meth.sig.returnType = some .int) (hlk : meth.locks = false) (r : Int32) (f_self : Nat → Nat → Int32) (s_self : Nat → Nat → Int32) (h : f_Gr_closeRule_0 s_self = some (r, f_self)) : Gd p l e rm_Gr_closeRule s m args below meth c 0 0 (MQ below (sq D classes (tyK K) (some (.int r)) [wd_Gr K a_self f_self] A) args s 0 0 A) D classes A 1 0 [wd_Gr K a_self s_self] [(0, .ref (a_self 0))] [] := by
  unfold f_Gr_closeRule_0 at h
  refine gd_aload_n X d_Gr_closeRule_0 0 rfl ?_
  refine gd_get X (ci := 1) (C := R_Gr) (T := F_Gr) (N := 12) (v := .int (s_self 0 3)) 0 0 rfl rfl rfl (in_Gr _) 3 (by decide) (List.mem_cons_of_mem _ fl_Gr_57) rfl rfl d_Gr_closeRule_1 ?_
  refine gd_if_eq X (tgt := 14) d_Gr_closeRule_4 (by decide) (fun c_1 => ?_) (fun c_1 => ?_)
  · replace h := it_p c_1 h
    refine gd_iconst X (v := (-1)) d_Gr_closeRule_14 (by decide) ?_
    cases h
    exact gd_iret X hr hlk d_Gr_closeRule_15
  · replace h := it_n c_1 h
    refine gd_aload_n X d_Gr_closeRule_7 0 rfl ?_
    obtain ⟨r_2, hc_3, h⟩ := bd1_e h
    refine gd_fI X (gd_V X (As := []) (rest := []) (c_Gr_begunLength l D K a_self s_self r_2 hc_3) 0 (gi_V ml_Gr_73 u_Gr_begunLength) rfl ⟨rfl, rfl⟩ (by decide +kernel) ⟨by decide, by decide⟩ (ci := 1) rfl rfl rfl rfl rfl rfl (Nat.le_of_ble_eq_true rfl) ⟨Nat.zero_le _, Nat.zero_le _⟩ d_Gr_closeRule_8) ?_
    refine gd_if_ne X (tgt := 16) d_Gr_closeRule_11 (by decide) (fun c_4 => ?_) (fun c_4 => ?_)
    · replace h := it_n c_4 h
      refine gd_aload_n X d_Gr_closeRule_16 0 rfl ?_
      refine gd_iconst X (v := 0) d_Gr_closeRule_17 (by decide) ?_
      obtain ⟨s_self_5, es_self_5, h⟩ := nm_e' h
      refine gd_put X (ci := 1) (C := R_Gr) (T := F_Gr) (N := 12) (ty := .boolean) (w' := [wd_Gr K a_self s_self_5]) 0 0 rfl rfl rfl (in_Gr _) t_Gr t_Gr_ok n_Gr 3 (by decide) (List.mem_cons_of_mem _ fl_Gr_57) rfl rfl (by decide +kernel) (by decide) (by decide) (Nat.le_of_ble_eq_true rfl) d_Gr_closeRule_18 (by rw [es_self_5]; rfl) ?_
      refine gd_aload_n X d_Gr_closeRule_21 0 rfl ?_
      refine gd_dup X d_Gr_closeRule_22 rfl ?_
      refine gd_get X (ci := 1) (C := R_Gr) (T := F_Gr) (N := 12) (v := .int (s_self_5 0 2)) 0 0 rfl rfl rfl (in_Gr _) 2 (by decide) (List.mem_cons_of_mem _ fl_Gr_37) rfl rfl d_Gr_closeRule_23 ?_
      refine gd_iconst X (v := 1) d_Gr_closeRule_26 (by decide) ?_
      refine gd_iadd X d_Gr_closeRule_27 ?_
      obtain ⟨s_self_6, es_self_6, h⟩ := nm_e' h
      refine gd_put X (ci := 1) (C := R_Gr) (T := F_Gr) (N := 12) (ty := .int) (w' := [wd_Gr K a_self s_self_6]) 0 0 rfl rfl rfl (in_Gr _) t_Gr t_Gr_ok n_Gr 2 (by decide) (List.mem_cons_of_mem _ fl_Gr_37) rfl rfl (by decide +kernel) rfl rfl (Nat.le_of_ble_eq_true rfl) d_Gr_closeRule_28 (by rw [es_self_6]; rfl) ?_
      refine gd_aload_n X d_Gr_closeRule_31 0 rfl ?_
      refine gd_get X (ci := 1) (C := R_Gr) (T := F_Gr) (N := 12) (v := .int (s_self_6 0 2)) 0 0 rfl rfl rfl (in_Gr _) 2 (by decide) (List.mem_cons_of_mem _ fl_Gr_37) rfl rfl d_Gr_closeRule_32 ?_
      refine gd_iconst X (v := 1) d_Gr_closeRule_35 (by decide) ?_
      refine gd_isub X d_Gr_closeRule_36 ?_
      cases h
      exact gd_iret X hr hlk d_Gr_closeRule_37
    · replace h := it_p c_4 h
      refine gd_iconst X (v := (-1)) d_Gr_closeRule_14 (by decide) ?_
      cases h
      exact gd_iret X hr hlk d_Gr_closeRule_15
def m_Gr_closeRule (s_self : Nat → Nat → Int32) : Option ((Int32) × (Nat → Nat → Int32)) := f_Gr_closeRule_0 s_self
set_option maxHeartbeats 4000000 in
set_option maxRecDepth 100000 in
theorem c_Gr_closeRule (l : Launch) (D : va_G) (K : Nat → ClassId) (a_self : Nat → Nat) (s_self : Nat → Nat → Int32) (r : Int32) (f_self : Nat → Nat → Int32) (h : m_Gr_closeRule s_self = some (r, f_self)) : SMet l y_Gr_closeRule w_Gr_closeRule rm_Gr_closeRule D classes (tyK K) [.ref (a_self 0)] (some (.int r)) [wd_Gr K a_self s_self] [wd_Gr K a_self f_self] := by
  refine sm_of R_Gr (by decide) rfl rfl (Nat.le_of_ble_eq_true rfl) ?_
  intro p e s m below meth c A X hr hlk
  refine gd_loc (lv' := [(0, .ref (a_self 0))]) [0] rfl ?_
  exact t_Gr_closeRule_0 a_self X hr hlk r f_self s_self h
abbrev b_Wy_plus : ByteArray := prog_8_method_2_code
def y_Wy_plus : MethodName := ⟨R_Wy, "plus", "(II)I"⟩
def w_Wy_plus : List Cond := .code y_Wy_plus b_Wy_plus 2 (some .int) :: TB
theorem k_Wy_plus : Cond.code y_Wy_plus b_Wy_plus 2 (some .int) ∈ TB := tb_of 508 (by decide +kernel) (by decide +kernel)
theorem d_Wy_plus_0 : decode b_Wy_plus 0 = .ok (.iload_n 0, 1) := by decide +kernel
theorem d_Wy_plus_1 : decode b_Wy_plus 1 = .ok (.ldc 11, 2) := by decide +kernel
theorem d_Wy_plus_3 : decode b_Wy_plus 3 = .ok (.if_icmp .eq 9, 3) := by decide +kernel
theorem d_Wy_plus_6 : decode b_Wy_plus 6 = .ok (.iload_n 1, 1) := by decide +kernel
theorem d_Wy_plus_7 : decode b_Wy_plus 7 = .ok (.ldc 11, 2) := by decide +kernel
theorem d_Wy_plus_9 : decode b_Wy_plus 9 = .ok (.if_icmp .ne 6, 3) := by decide +kernel
theorem d_Wy_plus_12 : decode b_Wy_plus 12 = .ok (.ldc 11, 2) := by decide +kernel
theorem d_Wy_plus_14 : decode b_Wy_plus 14 = .ok (.ireturn, 1) := by decide +kernel
theorem d_Wy_plus_15 : decode b_Wy_plus 15 = .ok (.iload_n 0, 1) := by decide +kernel
theorem d_Wy_plus_16 : decode b_Wy_plus 16 = .ok (.iload_n 1, 1) := by decide +kernel
theorem d_Wy_plus_17 : decode b_Wy_plus 17 = .ok (.iadd, 1) := by decide +kernel
theorem d_Wy_plus_18 : decode b_Wy_plus 18 = .ok (.ldc 12, 2) := by decide +kernel
theorem d_Wy_plus_20 : decode b_Wy_plus 20 = .ok (.invokestatic 13, 3) := by decide +kernel
theorem d_Wy_plus_23 : decode b_Wy_plus 23 = .ok (.ireturn, 1) := by decide +kernel
theorem kc_Wy_11 : Cond.constant R_Wy 11 1000002 ∈ TB := tb_of 496 (by decide +kernel) (by decide +kernel)
theorem kc_Wy_12 : Cond.constant R_Wy 12 1000001 ∈ TB := tb_of 509 (by decide +kernel) (by decide +kernel)
theorem ml_Wy_13 : Cond.methodLink R_Wy 13 ⟨"java/lang/Math", "min", "(II)I"⟩ ∈ TB := tb_of 510 (by decide +kernel) (by decide +kernel)
abbrev rm_Wy_plus : Room := { frames := 1, cells := 0, slots := 0, locals := 21 }
def f_Wy_plus_0 (v0 v1 : Int32) : Option ((Int32)) :=
  if v0 = 1000002 then
    some (1000002)
  else
    if v1 = 1000002 then
      some (1000002)
    else
      nm (if 1000001 < (v0 + v1) then 1000001 else (v0 + v1)) fun v_3 =>
      some (v_3)
set_option maxHeartbeats 4000000 in
set_option maxRecDepth 100000 in
theorem t_Wy_plus_0 {p : Program} {l : Launch} {e : Env} {s : State} {m : MethodId} {args : Array Value} {below : List Frame} {meth : Method} {c : Code} {A : Nat → Prop} {D : va_G} {K : Nat → ClassId} (X : gx p s m args c b_Wy_plus 2 R_Wy w_Wy_plus D classes (tyK K) A) (hr : meth.sig.returnType = some .int) (hlk : meth.locks = false) (r : Int32) (v0 v1 : Int32) (h : f_Wy_plus_0 v0 v1 = some r) : Gd p l e rm_Wy_plus s m args below meth c 0 0 (MQ below (sq D classes (tyK K) (some (.int r)) ([] : List va_W) A) args s 0 0 A) D classes A 2 0 ([] : List va_W) [(0, .int v0), (1, .int v1)] [] := by
  unfold f_Wy_plus_0 at h
  refine gd_iload_n X d_Wy_plus_0 0 rfl ?_
  refine gd_ldc X (v := 1000002) (List.mem_cons_of_mem _ kc_Wy_11) d_Wy_plus_1 ?_
  refine gd_icmp_eq X (tgt := 12) d_Wy_plus_3 (by decide) (fun c_1 => ?_) (fun c_1 => ?_)
  · replace h := it_p c_1 h
    refine gd_ldc X (v := 1000002) (List.mem_cons_of_mem _ kc_Wy_11) d_Wy_plus_12 ?_
    cases h
    exact gd_iret X hr hlk d_Wy_plus_14
  · replace h := it_n c_1 h
    refine gd_iload_n X d_Wy_plus_6 1 rfl ?_
    refine gd_ldc X (v := 1000002) (List.mem_cons_of_mem _ kc_Wy_11) d_Wy_plus_7 ?_
    refine gd_icmp_ne X (tgt := 15) d_Wy_plus_9 (by decide) (fun c_2 => ?_) (fun c_2 => ?_)
    · replace h := it_n c_2 h
      refine gd_iload_n X d_Wy_plus_15 0 rfl ?_
      refine gd_iload_n X d_Wy_plus_16 1 rfl ?_
      refine gd_iadd X d_Wy_plus_17 ?_
      refine gd_ldc X (v := 1000001) (List.mem_cons_of_mem _ kc_Wy_12) d_Wy_plus_18 ?_
      obtain ⟨v_3, ev_3, h⟩ := nm_e' h
      refine gd_mmin X (List.mem_cons_of_mem _ ml_Wy_13) (List.mem_cons_of_mem _ mw_min_1) (List.mem_cons_of_mem _ mw_min_2) (List.mem_cons_of_mem _ mw_min_3) (Nat.le_of_ble_eq_true rfl) (Nat.le_of_ble_eq_true rfl) ⟨Nat.zero_le _, Nat.zero_le _⟩ d_Wy_plus_20 ?_
      refine gd_topi ev_3 ?_
      cases h
      exact gd_iret X hr hlk d_Wy_plus_23
    · replace h := it_p c_2 h
      refine gd_ldc X (v := 1000002) (List.mem_cons_of_mem _ kc_Wy_11) d_Wy_plus_12 ?_
      cases h
      exact gd_iret X hr hlk d_Wy_plus_14
def m_Wy_plus (v0 v1 : Int32) : Option ((Int32)) := f_Wy_plus_0 v0 v1
set_option maxHeartbeats 4000000 in
set_option maxRecDepth 100000 in
theorem c_Wy_plus (l : Launch) (D : va_G) (K : Nat → ClassId) (v0 v1 : Int32) (r : Int32) (h : m_Wy_plus v0 v1 = some r) : SMet l y_Wy_plus w_Wy_plus rm_Wy_plus D classes (tyK K) [.int v0, .int v1] (some (.int r)) ([] : List va_W) ([] : List va_W) := by
  refine sm_of R_Wy (by decide) rfl rfl (Nat.le_of_ble_eq_true rfl) ?_
  intro p e s m below meth c A X hr hlk
  refine gd_loc (lv' := [(0, .int v0), (1, .int v1)]) [0, 1] rfl ?_
  exact t_Wy_plus_0 X hr hlk r v0 v1 h
