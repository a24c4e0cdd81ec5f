abbrev b_Md_isEndless : ByteArray := prog_10_method_29_code
def y_Md_isEndless : MethodName := ⟨R_Md, "isEndless", "(I)Z"⟩
def w_Md_isEndless : List Cond := .code y_Md_isEndless b_Md_isEndless 5 (some .boolean) :: TB
theorem k_Md_isEndless : Cond.code y_Md_isEndless b_Md_isEndless 5 (some .boolean) ∈ TB := tb_of 945 (by decide +kernel) (by decide +kernel)
theorem d_Md_isEndless_0 : decode b_Md_isEndless 0 = .ok (.iconst 0, 1) := by decide +kernel
theorem d_Md_isEndless_1 : decode b_Md_isEndless 1 = .ok (.istore_n 2, 1) := by decide +kernel
theorem d_Md_isEndless_2 : decode b_Md_isEndless 2 = .ok (.iconst 0, 1) := by decide +kernel
theorem d_Md_isEndless_3 : decode b_Md_isEndless 3 = .ok (.istore_n 3, 1) := by decide +kernel
theorem d_Md_isEndless_4 : decode b_Md_isEndless 4 = .ok (.iload_n 3, 1) := by decide +kernel
theorem d_Md_isEndless_5 : decode b_Md_isEndless 5 = .ok (.aload_n 0, 1) := by decide +kernel
theorem d_Md_isEndless_6 : decode b_Md_isEndless 6 = .ok (.getfield 89, 3) := by decide +kernel
theorem d_Md_isEndless_9 : decode b_Md_isEndless 9 = .ok (.if_icmp .ge 112, 3) := by decide +kernel
theorem d_Md_isEndless_12 : decode b_Md_isEndless 12 = .ok (.iload_n 2, 1) := by decide +kernel
theorem d_Md_isEndless_13 : decode b_Md_isEndless 13 = .ok (.ifCond .ne 23, 3) := by decide +kernel
theorem d_Md_isEndless_16 : decode b_Md_isEndless 16 = .ok (.aload_n 0, 1) := by decide +kernel
theorem d_Md_isEndless_17 : decode b_Md_isEndless 17 = .ok (.iload_n 1, 1) := by decide +kernel
theorem d_Md_isEndless_18 : decode b_Md_isEndless 18 = .ok (.iload_n 3, 1) := by decide +kernel
theorem d_Md_isEndless_19 : decode b_Md_isEndless 19 = .ok (.invokevirtual 175, 3) := by decide +kernel
theorem d_Md_isEndless_22 : decode b_Md_isEndless 22 = .ok (.ifCond .eq 18, 3) := by decide +kernel
theorem d_Md_isEndless_25 : decode b_Md_isEndless 25 = .ok (.aload_n 0, 1) := by decide +kernel
theorem d_Md_isEndless_26 : decode b_Md_isEndless 26 = .ok (.getfield 60, 3) := by decide +kernel
theorem d_Md_isEndless_29 : decode b_Md_isEndless 29 = .ok (.iload_n 3, 1) := by decide +kernel
theorem d_Md_isEndless_30 : decode b_Md_isEndless 30 = .ok (.iaload, 1) := by decide +kernel
theorem d_Md_isEndless_31 : decode b_Md_isEndless 31 = .ok (.bipush (-3), 2) := by decide +kernel
theorem d_Md_isEndless_33 : decode b_Md_isEndless 33 = .ok (.if_icmp .ne 7, 3) := by decide +kernel
theorem d_Md_isEndless_36 : decode b_Md_isEndless 36 = .ok (.iconst 1, 1) := by decide +kernel
theorem d_Md_isEndless_37 : decode b_Md_isEndless 37 = .ok (.goto 4, 3) := by decide +kernel
theorem d_Md_isEndless_40 : decode b_Md_isEndless 40 = .ok (.iconst 0, 1) := by decide +kernel
theorem d_Md_isEndless_41 : decode b_Md_isEndless 41 = .ok (.istore_n 2, 1) := by decide +kernel
theorem d_Md_isEndless_42 : decode b_Md_isEndless 42 = .ok (.iconst 0, 1) := by decide +kernel
theorem d_Md_isEndless_43 : decode b_Md_isEndless 43 = .ok (.istore 4, 2) := by decide +kernel
theorem d_Md_isEndless_45 : decode b_Md_isEndless 45 = .ok (.iload 4, 2) := by decide +kernel
theorem d_Md_isEndless_47 : decode b_Md_isEndless 47 = .ok (.aload_n 0, 1) := by decide +kernel
theorem d_Md_isEndless_48 : decode b_Md_isEndless 48 = .ok (.getfield 89, 3) := by decide +kernel
theorem d_Md_isEndless_51 : decode b_Md_isEndless 51 = .ok (.if_icmp .ge 64, 3) := by decide +kernel
theorem d_Md_isEndless_54 : decode b_Md_isEndless 54 = .ok (.iload_n 2, 1) := by decide +kernel
theorem d_Md_isEndless_55 : decode b_Md_isEndless 55 = .ok (.ifCond .ne 48, 3) := by decide +kernel
theorem d_Md_isEndless_58 : decode b_Md_isEndless 58 = .ok (.aload_n 0, 1) := by decide +kernel
theorem d_Md_isEndless_59 : decode b_Md_isEndless 59 = .ok (.getfield 60, 3) := by decide +kernel
theorem d_Md_isEndless_62 : decode b_Md_isEndless 62 = .ok (.iload_n 3, 1) := by decide +kernel
theorem d_Md_isEndless_63 : decode b_Md_isEndless 63 = .ok (.iaload, 1) := by decide +kernel
theorem d_Md_isEndless_64 : decode b_Md_isEndless 64 = .ok (.ifCond .eq 43, 3) := by decide +kernel
theorem d_Md_isEndless_67 : decode b_Md_isEndless 67 = .ok (.aload_n 0, 1) := by decide +kernel
theorem d_Md_isEndless_68 : decode b_Md_isEndless 68 = .ok (.iload_n 1, 1) := by decide +kernel
theorem d_Md_isEndless_69 : decode b_Md_isEndless 69 = .ok (.iload 4, 2) := by decide +kernel
theorem d_Md_isEndless_71 : decode b_Md_isEndless 71 = .ok (.invokevirtual 175, 3) := by decide +kernel
theorem d_Md_isEndless_74 : decode b_Md_isEndless 74 = .ok (.ifCond .eq 33, 3) := by decide +kernel
theorem d_Md_isEndless_77 : decode b_Md_isEndless 77 = .ok (.aload_n 0, 1) := by decide +kernel
theorem d_Md_isEndless_78 : decode b_Md_isEndless 78 = .ok (.getfield 66, 3) := by decide +kernel
theorem d_Md_isEndless_81 : decode b_Md_isEndless 81 = .ok (.bipush 6, 2) := by decide +kernel
theorem d_Md_isEndless_83 : decode b_Md_isEndless 83 = .ok (.iload 4, 2) := by decide +kernel
theorem d_Md_isEndless_85 : decode b_Md_isEndless 85 = .ok (.imul, 1) := by decide +kernel
theorem d_Md_isEndless_86 : decode b_Md_isEndless 86 = .ok (.iload 4, 2) := by decide +kernel
theorem d_Md_isEndless_88 : decode b_Md_isEndless 88 = .ok (.iadd, 1) := by decide +kernel
theorem d_Md_isEndless_89 : decode b_Md_isEndless 89 = .ok (.baload, 1) := by decide +kernel
theorem d_Md_isEndless_90 : decode b_Md_isEndless 90 = .ok (.ifCond .eq 17, 3) := by decide +kernel
theorem d_Md_isEndless_93 : decode b_Md_isEndless 93 = .ok (.aload_n 0, 1) := by decide +kernel
theorem d_Md_isEndless_94 : decode b_Md_isEndless 94 = .ok (.iload 4, 2) := by decide +kernel
theorem d_Md_isEndless_96 : decode b_Md_isEndless 96 = .ok (.iload_n 3, 1) := by decide +kernel
theorem d_Md_isEndless_97 : decode b_Md_isEndless 97 = .ok (.invokevirtual 175, 3) := by decide +kernel
theorem d_Md_isEndless_100 : decode b_Md_isEndless 100 = .ok (.ifCond .eq 7, 3) := by decide +kernel
theorem d_Md_isEndless_103 : decode b_Md_isEndless 103 = .ok (.iconst 1, 1) := by decide +kernel
theorem d_Md_isEndless_104 : decode b_Md_isEndless 104 = .ok (.goto 4, 3) := by decide +kernel
theorem d_Md_isEndless_107 : decode b_Md_isEndless 107 = .ok (.iconst 0, 1) := by decide +kernel
theorem d_Md_isEndless_108 : decode b_Md_isEndless 108 = .ok (.istore_n 2, 1) := by decide +kernel
theorem d_Md_isEndless_109 : decode b_Md_isEndless 109 = .ok (.iinc 4 1, 3) := by decide +kernel
theorem d_Md_isEndless_112 : decode b_Md_isEndless 112 = .ok (.goto (-67), 3) := by decide +kernel
theorem d_Md_isEndless_115 : decode b_Md_isEndless 115 = .ok (.iinc 3 1, 3) := by decide +kernel
theorem d_Md_isEndless_118 : decode b_Md_isEndless 118 = .ok (.goto (-114), 3) := by decide +kernel
theorem d_Md_isEndless_121 : decode b_Md_isEndless 121 = .ok (.iload_n 2, 1) := by decide +kernel
theorem d_Md_isEndless_122 : decode b_Md_isEndless 122 = .ok (.ireturn, 1) := by decide +kernel
theorem ml_Md_175 : Cond.methodLink R_Md 175 ⟨"RuleTreesModel", "reaches", "(II)Z"⟩ ∈ TB := tb_of 946 (by decide +kernel) (by decide +kernel)
theorem u_Md_reaches : (Cond.instanceMethod y_Md_reaches ∈ TB ∧ Cond.selects R_Md y_Md_reaches y_Md_reaches ∈ TB) ∧ Cond.initialized R_Md ∈ TB ∧ Cond.code y_Md_reaches b_Md_reaches 3 (some .boolean) ∈ TB := ⟨⟨(tb_of 948 (by decide +kernel) (by decide +kernel)), (tb_of 53 (by decide +kernel) (by decide +kernel))⟩, (tb_of 70 (by decide +kernel) (by decide +kernel)), k_Md_reaches⟩
abbrev rm_Md_isEndless : Room := { frames := 1, cells := 0, slots := 0, locals := 22 }
def f_Md_isEndless_45 (N : Nat) (kb : Int32 → Int32 → Option ((Int32))) (kx115 : Int32 → Option ((Int32))) (s_self : Nat → Nat → Int32) (v1 v2 v3 v4 : Int32) : Option ((Int32)) :=
  if (s_self 0 1) ≤ v4 then
    kx115 v2
  else
    if v2 = 0 then
      ck v3 6 <|
      if (s_self 16 (Int32.toNatClampNeg v3)) = 0 then
        nm (v4 + 1) fun v4_6 =>
        kb 0 v4_6
      else
        bd1 (m_Md_reaches s_self v1 v4) fun r_7 =>
        if r_7 = 0 then
          nm (v4 + 1) fun v4_10 =>
          kb 0 v4_10
        else
          ck ((6 * v4) + v4) 36 <|
          if (s_self 18 (Int32.toNatClampNeg ((6 * v4) + v4))) = 0 then
            nm (v4 + 1) fun v4_13 =>
            kb 0 v4_13
          else
            bd1 (m_Md_reaches s_self v4 v3) fun r_14 =>
            if r_14 = 0 then
              nm (v4 + 1) fun v4_17 =>
              kb 0 v4_17
            else
              nm (v4 + 1) fun v4_18 =>
              kb 1 v4_18
    else
      nm (v4 + 1) fun v4_3 =>
      kb 1 v4_3
set_option maxHeartbeats 4000000 in
set_option maxRecDepth 100000 in
theorem t_Md_isEndless_45 {p : Program} {l : Launch} {e : Env} {s : State} {m : MethodId} {args : Array Value} {below : List Frame} {meth : Method} {c : Code} {A : Nat → Prop} {D : va_G} {K : Nat → ClassId} (a_self a_least : Nat → Nat) (X : gx p s m args c b_Md_isEndless 5 R_Md w_Md_isEndless D classes (tyK K) A) (hr : meth.sig.returnType = some .boolean) (hlk : meth.locks = false) (N : Nat) (r : Int32) (s_self : Nat → Nat → Int32) (v1 v2 v3 v4 : Int32) (kb : Int32 → Int32 → Option ((Int32))) (hkb : ∀ (v2 v4 : Int32), kb v2 v4 = some r → Gd p l e rm_Md_isEndless s m args below meth c 0 0 (MQ below (sq D classes (tyK K) (some (.int r)) [wd_Md K a_self (a_least 0) s_self] A) args s 0 0 A) D classes A 5 45 [wd_Md K a_self (a_least 0) s_self] [(0, .ref (a_self 0)), (1, .int v1), (2, .int v2), (3, .int v3), (4, .int v4)] []) (kx115 : Int32 → Option ((Int32))) (hkx115 : ∀ (v2 : Int32), kx115 v2 = some r → Gd p l e rm_Md_isEndless s m args below meth c 0 0 (MQ below (sq D classes (tyK K) (some (.int r)) [wd_Md K a_self (a_least 0) s_self] A) args s 0 0 A) D classes A 5 115 [wd_Md K a_self (a_least 0) s_self] [(0, .ref (a_self 0)), (1, .int v1), (2, .int v2), (3, .int v3)] []) (h : f_Md_isEndless_45 N kb kx115 s_self v1 v2 v3 v4 = some r) : Gd p l e rm_Md_isEndless s m args below meth c 0 0 (MQ below (sq D classes (tyK K) (some (.int r)) [wd_Md K a_self (a_least 0) s_self] A) args s 0 0 A) D classes A 5 45 [wd_Md K a_self (a_least 0) s_self] [(0, .ref (a_self 0)), (1, .int v1), (2, .int v2), (3, .int v3), (4, .int v4)] [] := by
  unfold f_Md_isEndless_45 at h
  refine gd_iload X d_Md_isEndless_45 4 rfl ?_
  refine gd_aload_n X d_Md_isEndless_47 0 rfl ?_
  refine gd_get X (ci := 7) (C := R_Md) (T := F_Md) (N := 36) (v := .int (s_self 0 1)) 0 0 rfl rfl rfl (in_Md _) 1 (by decide) (List.mem_cons_of_mem _ fl_Md_89) rfl rfl d_Md_isEndless_48 ?_
  refine gd_icmp_ge X (tgt := 115) d_Md_isEndless_51 (by decide) (fun c_1 => ?_) (fun c_1 => ?_)
  · replace h := it_p c_1 h
    refine gd_loc (lv' := [(0, .ref (a_self 0)), (1, .int v1), (2, .int v2), (3, .int v3)]) [0, 1, 2, 3] rfl ?_
    exact hkx115 v2 h
  · replace h := it_n c_1 h
    refine gd_iload_n X d_Md_isEndless_54 2 rfl ?_
    refine gd_if_ne X (tgt := 103) d_Md_isEndless_55 (by decide) (fun c_2 => ?_) (fun c_2 => ?_)
    · replace h := it_n c_2 h
      refine gd_iconst X (v := 1) d_Md_isEndless_103 (by decide) ?_
      refine gd_goto X (tgt := 108) d_Md_isEndless_104 (by decide) ?_
      refine gd_istore_n X (lv' := [(2, .int 1), (0, .ref (a_self 0)), (1, .int v1), (3, .int v3), (4, .int v4)]) d_Md_isEndless_108 rfl (by decide) rfl ?_
      obtain ⟨v4_3, ev4_3, h⟩ := nm_e' h
      refine gd_iinc X (v := v4_3) (lv' := [(4, .int v4_3), (2, .int 1), (0, .ref (a_self 0)), (1, .int v1), (3, .int v3)]) d_Md_isEndless_109 (k := 4) rfl (by rw [ev4_3]; rfl) (by decide) rfl ?_
      refine gd_goto X (tgt := 45) d_Md_isEndless_112 (by decide) ?_
      refine gd_loc (lv' := [(0, .ref (a_self 0)), (1, .int v1), (2, .int 1), (3, .int v3), (4, .int v4_3)]) [2, 3, 1, 4, 0] rfl ?_
      exact hkb 1 v4_3 h
    · replace h := it_p c_2 h
      refine gd_aload_n X d_Md_isEndless_58 0 rfl ?_
      refine gd_get X (ci := 7) (C := R_Md) (T := F_Md) (N := 36) (v := .ref (a_self 16)) 0 0 rfl rfl rfl (in_Md _) 27 (by decide) (List.mem_cons_of_mem _ fl_Md_60) rfl rfl d_Md_isEndless_59 ?_
      refine gd_iload_n X d_Md_isEndless_62 3 rfl ?_
      obtain ⟨hi_4, h⟩ := ck_e h
      refine gd_iald X 0 16 0 rfl rfl rfl hi_4 d_Md_isEndless_63 ?_
      refine gd_if_eq X (tgt := 107) d_Md_isEndless_64 (by decide) (fun c_5 => ?_) (fun c_5 => ?_)
      · replace h := it_p c_5 h
        refine gd_iconst X (v := 0) d_Md_isEndless_107 (by decide) ?_
        refine gd_istore_n X (lv' := [(2, .int 0), (0, .ref (a_self 0)), (1, .int v1), (3, .int v3), (4, .int v4)]) d_Md_isEndless_108 rfl (by decide) rfl ?_
        obtain ⟨v4_6, ev4_6, h⟩ := nm_e' h
        refine gd_iinc X (v := v4_6) (lv' := [(4, .int v4_6), (2, .int 0), (0, .ref (a_self 0)), (1, .int v1), (3, .int v3)]) d_Md_isEndless_109 (k := 4) rfl (by rw [ev4_6]; rfl) (by decide) rfl ?_
        refine gd_goto X (tgt := 45) d_Md_isEndless_112 (by decide) ?_
        refine gd_loc (lv' := [(0, .ref (a_self 0)), (1, .int v1), (2, .int 0), (3, .int v3), (4, .int v4_6)]) [2, 3, 1, 4, 0] rfl ?_
        exact hkb 0 v4_6 h
      · replace h := it_n c_5 h
        refine gd_aload_n X d_Md_isEndless_67 0 rfl ?_
        refine gd_iload_n X d_Md_isEndless_68 1 rfl ?_
        refine gd_iload X d_Md_isEndless_69 4 rfl ?_
        obtain ⟨r_7, hc_8, h⟩ := bd1_e h
        refine gd_fI X (gd_V X (As := [.int v1, .int v4]) (rest := []) (c_Md_reaches l D K a_self a_least s_self v1 v4 r_7 hc_8) 2 (gi_V ml_Md_175 u_Md_reaches) rfl ⟨rfl, rfl⟩ (by decide +kernel) ⟨by decide, by decide⟩ (ci := 7) rfl rfl rfl rfl rfl rfl (Nat.le_of_ble_eq_true rfl) ⟨Nat.zero_le _, Nat.zero_le _⟩ d_Md_isEndless_71) ?_
        refine gd_if_eq X (tgt := 107) d_Md_isEndless_74 (by decide) (fun c_9 => ?_) (fun c_9 => ?_)
        · replace h := it_p c_9 h
          refine gd_iconst X (v := 0) d_Md_isEndless_107 (by decide) ?_
          refine gd_istore_n X (lv' := [(2, .int 0), (0, .ref (a_self 0)), (1, .int v1), (3, .int v3), (4, .int v4)]) d_Md_isEndless_108 rfl (by decide) rfl ?_
          obtain ⟨v4_10, ev4_10, h⟩ := nm_e' h
          refine gd_iinc X (v := v4_10) (lv' := [(4, .int v4_10), (2, .int 0), (0, .ref (a_self 0)), (1, .int v1), (3, .int v3)]) d_Md_isEndless_109 (k := 4) rfl (by rw [ev4_10]; rfl) (by decide) rfl ?_
          refine gd_goto X (tgt := 45) d_Md_isEndless_112 (by decide) ?_
          refine gd_loc (lv' := [(0, .ref (a_self 0)), (1, .int v1), (2, .int 0), (3, .int v3), (4, .int v4_10)]) [2, 3, 1, 4, 0] rfl ?_
          exact hkb 0 v4_10 h
        · replace h := it_n c_9 h
          refine gd_aload_n X d_Md_isEndless_77 0 rfl ?_
          refine gd_get X (ci := 7) (C := R_Md) (T := F_Md) (N := 36) (v := .ref (a_self 18)) 0 0 rfl rfl rfl (in_Md _) 29 (by decide) (List.mem_cons_of_mem _ fl_Md_66) rfl rfl d_Md_isEndless_78 ?_
          refine gd_bipush X (v := 6) d_Md_isEndless_81 (by decide) ?_
          refine gd_iload X d_Md_isEndless_83 4 rfl ?_
          refine gd_imul X d_Md_isEndless_85 ?_
          refine gd_iload X d_Md_isEndless_86 4 rfl ?_
          refine gd_iadd X d_Md_isEndless_88 ?_
          obtain ⟨hi_11, h⟩ := ck_e h
          refine gd_zald X 0 18 1 rfl rfl rfl hi_11 d_Md_isEndless_89 ?_
          refine gd_if_eq X (tgt := 107) d_Md_isEndless_90 (by decide) (fun c_12 => ?_) (fun c_12 => ?_)
          · replace h := it_p c_12 h
            refine gd_iconst X (v := 0) d_Md_isEndless_107 (by decide) ?_
            refine gd_istore_n X (lv' := [(2, .int 0), (0, .ref (a_self 0)), (1, .int v1), (3, .int v3), (4, .int v4)]) d_Md_isEndless_108 rfl (by decide) rfl ?_
            obtain ⟨v4_13, ev4_13, h⟩ := nm_e' h
            refine gd_iinc X (v := v4_13) (lv' := [(4, .int v4_13), (2, .int 0), (0, .ref (a_self 0)), (1, .int v1), (3, .int v3)]) d_Md_isEndless_109 (k := 4) rfl (by rw [ev4_13]; rfl) (by decide) rfl ?_
            refine gd_goto X (tgt := 45) d_Md_isEndless_112 (by decide) ?_
            refine gd_loc (lv' := [(0, .ref (a_self 0)), (1, .int v1), (2, .int 0), (3, .int v3), (4, .int v4_13)]) [2, 3, 1, 4, 0] rfl ?_
            exact hkb 0 v4_13 h
          · replace h := it_n c_12 h
            refine gd_aload_n X d_Md_isEndless_93 0 rfl ?_
            refine gd_iload X d_Md_isEndless_94 4 rfl ?_
            refine gd_iload_n X d_Md_isEndless_96 3 rfl ?_
            obtain ⟨r_14, hc_15, h⟩ := bd1_e h
            refine gd_fI X (gd_V X (As := [.int v4, .int v3]) (rest := []) (c_Md_reaches l D K a_self a_least s_self v4 v3 r_14 hc_15) 2 (gi_V ml_Md_175 u_Md_reaches) rfl ⟨rfl, rfl⟩ (by decide +kernel) ⟨by decide, by decide⟩ (ci := 7) rfl rfl rfl rfl rfl rfl (Nat.le_of_ble_eq_true rfl) ⟨Nat.zero_le _, Nat.zero_le _⟩ d_Md_isEndless_97) ?_
            refine gd_if_eq X (tgt := 107) d_Md_isEndless_100 (by decide) (fun c_16 => ?_) (fun c_16 => ?_)
            · replace h := it_p c_16 h
              refine gd_iconst X (v := 0) d_Md_isEndless_107 (by decide) ?_
              refine gd_istore_n X (lv' := [(2, .int 0), (0, .ref (a_self 0)), (1, .int v1), (3, .int v3), (4, .int v4)]) d_Md_isEndless_108 rfl (by decide) rfl ?_
              obtain ⟨v4_17, ev4_17, h⟩ := nm_e' h
              refine gd_iinc X (v := v4_17) (lv' := [(4, .int v4_17), (2, .int 0), (0, .ref (a_self 0)), (1, .int v1), (3, .int v3)]) d_Md_isEndless_109 (k := 4) rfl (by rw [ev4_17]; rfl) (by decide) rfl ?_
              refine gd_goto X (tgt := 45) d_Md_isEndless_112 (by decide) ?_
              refine gd_loc (lv' := [(0, .ref (a_self 0)), (1, .int v1), (2, .int 0), (3, .int v3), (4, .int v4_17)]) [2, 3, 1, 4, 0] rfl ?_
              exact hkb 0 v4_17 h
            · replace h := it_n c_16 h
              refine gd_iconst X (v := 1) d_Md_isEndless_103 (by decide) ?_
              refine gd_goto X (tgt := 108) d_Md_isEndless_104 (by decide) ?_
              refine gd_istore_n X (lv' := [(2, .int 1), (0, .ref (a_self 0)), (1, .int v1), (3, .int v3), (4, .int v4)]) d_Md_isEndless_108 rfl (by decide) rfl ?_
              obtain ⟨v4_18, ev4_18, h⟩ := nm_e' h
              refine gd_iinc X (v := v4_18) (lv' := [(4, .int v4_18), (2, .int 1), (0, .ref (a_self 0)), (1, .int v1), (3, .int v3)]) d_Md_isEndless_109 (k := 4) rfl (by rw [ev4_18]; rfl) (by decide) rfl ?_
              refine gd_goto X (tgt := 45) d_Md_isEndless_112 (by decide) ?_
              refine gd_loc (lv' := [(0, .ref (a_self 0)), (1, .int v1), (2, .int 1), (3, .int v3), (4, .int v4_18)]) [2, 3, 1, 4, 0] rfl ?_
              exact hkb 1 v4_18 h
def f_Md_isEndless_115 (N : Nat) (kb : Int32 → Int32 → Option ((Int32))) (kx121 : Int32 → Option ((Int32))) (s_self : Nat → Nat → Int32) (v1 v2 v3 : Int32) : Option ((Int32)) :=
  nm (v3 + 1) fun v3_1 =>
  kb v2 v3_1
set_option maxHeartbeats 4000000 in
set_option maxRecDepth 100000 in
theorem t_Md_isEndless_115 {p : Program} {l : Launch} {e : Env} {s : State} {m : MethodId} {args : Array Value} {below : List Frame} {meth : Method} {c : Code} {A : Nat → Prop} {D : va_G} {K : Nat → ClassId} (a_self a_least : Nat → Nat) (X : gx p s m args c b_Md_isEndless 5 R_Md w_Md_isEndless D classes (tyK K) A) (hr : meth.sig.returnType = some .boolean) (hlk : meth.locks = false) (N : Nat) (r : Int32) (s_self : Nat → Nat → Int32) (v1 v2 v3 : Int32) (kb : Int32 → Int32 → Option ((Int32))) (hkb : ∀ (v2 v3 : Int32), kb v2 v3 = some r → Gd p l e rm_Md_isEndless s m args below meth c 0 0 (MQ below (sq D classes (tyK K) (some (.int r)) [wd_Md K a_self (a_least 0) s_self] A) args s 0 0 A) D classes A 5 4 [wd_Md K a_self (a_least 0) s_self] [(0, .ref (a_self 0)), (1, .int v1), (2, .int v2), (3, .int v3)] []) (kx121 : Int32 → Option ((Int32))) (hkx121 : ∀ (v2 : Int32), kx121 v2 = some r → Gd p l e rm_Md_isEndless s m args below meth c 0 0 (MQ below (sq D classes (tyK K) (some (.int r)) [wd_Md K a_self (a_least 0) s_self] A) args s 0 0 A) D classes A 5 121 [wd_Md K a_self (a_least 0) s_self] [(2, .int v2)] []) (h : f_Md_isEndless_115 N kb kx121 s_self v1 v2 v3 = some r) : Gd p l e rm_Md_isEndless s m args below meth c 0 0 (MQ below (sq D classes (tyK K) (some (.int r)) [wd_Md K a_self (a_least 0) s_self] A) args s 0 0 A) D classes A 5 115 [wd_Md K a_self (a_least 0) s_self] [(0, .ref (a_self 0)), (1, .int v1), (2, .int v2), (3, .int v3)] [] := by
  unfold f_Md_isEndless_115 at h
  obtain ⟨v3_1, ev3_1, h⟩ := nm_e' h
  refine gd_iinc X (v := v3_1) (lv' := [(3, .int v3_1), (0, .ref (a_self 0)), (1, .int v1), (2, .int v2)]) d_Md_isEndless_115 (k := 3) rfl (by rw [ev3_1]; rfl) (by decide) rfl ?_
  refine gd_goto X (tgt := 4) d_Md_isEndless_118 (by decide) ?_
  refine gd_loc (lv' := [(0, .ref (a_self 0)), (1, .int v1), (2, .int v2), (3, .int v3_1)]) [1, 2, 3, 0] rfl ?_
  exact hkb v2 v3_1 h
def l_Md_isEndless_45 (N : Nat) (s_self : Nat → Nat → Int32) (v1 v3 : Int32) (kx115 : Int32 → Option ((Int32))) : Nat → Int32 → Int32 → Option ((Int32))
  | 0, _, _ => none
  | n + 1, v2, v4 => f_Md_isEndless_45 N (l_Md_isEndless_45 N s_self v1 v3 kx115 n) kx115 s_self v1 v2 v3 v4
set_option maxHeartbeats 4000000 in
set_option maxRecDepth 100000 in
theorem tl_Md_isEndless_45 {p : Program} {l : Launch} {e : Env} {s : State} {m : MethodId} {args : Array Value} {below : List Frame} {meth : Method} {c : Code} {A : Nat → Prop} {D : va_G} {K : Nat → ClassId} (a_self a_least : Nat → Nat) (X : gx p s m args c b_Md_isEndless 5 R_Md w_Md_isEndless D classes (tyK K) A) (hr : meth.sig.returnType = some .boolean) (hlk : meth.locks = false) (N : Nat) (r : Int32) (s_self : Nat → Nat → Int32) (v1 v3 : Int32) (kx115 : Int32 → Option ((Int32))) (hkx115 : ∀ (v2 : Int32), kx115 v2 = some r → Gd p l e rm_Md_isEndless s m args below meth c 0 0 (MQ below (sq D classes (tyK K) (some (.int r)) [wd_Md K a_self (a_least 0) s_self] A) args s 0 0 A) D classes A 5 115 [wd_Md K a_self (a_least 0) s_self] [(0, .ref (a_self 0)), (1, .int v1), (2, .int v2), (3, .int v3)] []) : ∀ (n : Nat) (v2 v4 : Int32), l_Md_isEndless_45 N s_self v1 v3 kx115 n v2 v4 = some r → Gd p l e rm_Md_isEndless s m args below meth c 0 0 (MQ below (sq D classes (tyK K) (some (.int r)) [wd_Md K a_self (a_least 0) s_self] A) args s 0 0 A) D classes A 5 45 [wd_Md K a_self (a_least 0) s_self] [(0, .ref (a_self 0)), (1, .int v1), (2, .int v2), (3, .int v3), (4, .int v4)] [] := by
  intro n
  induction n with
  | zero => intro v2 v4 h; have h : (none : Option ((Int32))) = some _ := h; cases h
  | succ n ih =>
    intro v2 v4 h
    exact t_Md_isEndless_45 a_self a_least X hr hlk N r s_self v1 v2 v3 v4 (l_Md_isEndless_45 N s_self v1 v3 kx115 n) ih kx115 hkx115 h
def f_Md_isEndless_4 (N : Nat) (kb : Int32 → Int32 → Option ((Int32))) (kx121 : Int32 → Option ((Int32))) (s_self : Nat → Nat → Int32) (v1 v2 v3 : Int32) : Option ((Int32)) :=
  if (s_self 0 1) ≤ v3 then
    kx121 v2
  else
    if v2 = 0 then
      bd1 (m_Md_reaches s_self v1 v3) fun r_3 =>
      if r_3 = 0 then
        l_Md_isEndless_45 N s_self v1 v3 (fun v2 => f_Md_isEndless_115 N kb kx121 s_self v1 v2 v3) N 0 0
      else
        ck v3 6 <|
        if (s_self 16 (Int32.toNatClampNeg v3)) = (-3) then
          l_Md_isEndless_45 N s_self v1 v3 (fun v2 => f_Md_isEndless_115 N kb kx121 s_self v1 v2 v3) N 1 0
        else
          l_Md_isEndless_45 N s_self v1 v3 (fun v2 => f_Md_isEndless_115 N kb kx121 s_self v1 v2 v3) N 0 0
    else
      l_Md_isEndless_45 N s_self v1 v3 (fun v2 => f_Md_isEndless_115 N kb kx121 s_self v1 v2 v3) N 1 0
set_option maxHeartbeats 4000000 in
set_option maxRecDepth 100000 in
theorem t_Md_isEndless_4 {p : Program} {l : Launch} {e : Env} {s : State} {m : MethodId} {args : Array Value} {below : List Frame} {meth : Method} {c : Code} {A : Nat → Prop} {D : va_G} {K : Nat → ClassId} (a_self a_least : Nat → Nat) (X : gx p s m args c b_Md_isEndless 5 R_Md w_Md_isEndless D classes (tyK K) A) (hr : meth.sig.returnType = some .boolean) (hlk : meth.locks = false) (N : Nat) (r : Int32) (s_self : Nat → Nat → Int32) (v1 v2 v3 : Int32) (kb : Int32 → Int32 → Option ((Int32))) (hkb : ∀ (v2 v3 : Int32), kb v2 v3 = some r → Gd p l e rm_Md_isEndless s m args below meth c 0 0 (MQ below (sq D classes (tyK K) (some (.int r)) [wd_Md K a_self (a_least 0) s_self] A) args s 0 0 A) D classes A 5 4 [wd_Md K a_self (a_least 0) s_self] [(0, .ref (a_self 0)), (1, .int v1), (2, .int v2), (3, .int v3)] []) (kx121 : Int32 → Option ((Int32))) (hkx121 : ∀ (v2 : Int32), kx121 v2 = some r → Gd p l e rm_Md_isEndless s m args below meth c 0 0 (MQ below (sq D classes (tyK K) (some (.int r)) [wd_Md K a_self (a_least 0) s_self] A) args s 0 0 A) D classes A 5 121 [wd_Md K a_self (a_least 0) s_self] [(2, .int v2)] []) (h : f_Md_isEndless_4 N kb kx121 s_self v1 v2 v3 = some r) : Gd p l e rm_Md_isEndless s m args below meth c 0 0 (MQ below (sq D classes (tyK K) (some (.int r)) [wd_Md K a_self (a_least 0) s_self] A) args s 0 0 A) D classes A 5 4 [wd_Md K a_self (a_least 0) s_self] [(0, .ref (a_self 0)), (1, .int v1), (2, .int v2), (3, .int v3)] [] := by
  unfold f_Md_isEndless_4 at h
  refine gd_iload_n X d_Md_isEndless_4 3 rfl ?_
  refine gd_aload_n X d_Md_isEndless_5 0 rfl ?_
  refine gd_get X (ci := 7) (C := R_Md) (T := F_Md) (N := 36) (v := .int (s_self 0 1)) 0 0 rfl rfl rfl (in_Md _) 1 (by decide) (List.mem_cons_of_mem _ fl_Md_89) rfl rfl d_Md_isEndless_6 ?_
  refine gd_icmp_ge X (tgt := 121) d_Md_isEndless_9 (by decide) (fun c_1 => ?_) (fun c_1 => ?_)
  · replace h := it_p c_1 h
    refine gd_loc (lv' := [(2, .int v2)]) [2] rfl ?_
    exact hkx121 v2 h
  · replace h := it_n c_1 h
    refine gd_iload_n X d_Md_isEndless_12 2 rfl ?_
    refine gd_if_ne X (tgt := 36) d_Md_isEndless_13 (by decide) (fun c_2 => ?_) (fun c_2 => ?_)
    · replace h := it_n c_2 h
      refine gd_iconst X (v := 1) d_Md_isEndless_36 (by decide) ?_
      refine gd_goto X (tgt := 41) d_Md_isEndless_37 (by decide) ?_
      refine gd_istore_n X (lv' := [(2, .int 1), (0, .ref (a_self 0)), (1, .int v1), (3, .int v3)]) d_Md_isEndless_41 rfl (by decide) rfl ?_
      refine gd_iconst X (v := 0) d_Md_isEndless_42 (by decide) ?_
      refine gd_istore X (lv' := [(4, .int 0), (2, .int 1), (0, .ref (a_self 0)), (1, .int v1), (3, .int v3)]) d_Md_isEndless_43 (by decide) rfl ?_
      refine gd_loc (lv' := [(0, .ref (a_self 0)), (1, .int v1), (2, .int 1), (3, .int v3), (4, .int 0)]) [2, 3, 1, 4, 0] rfl ?_
      exact tl_Md_isEndless_45 a_self a_least X hr hlk N r s_self v1 v3 (fun v2 => f_Md_isEndless_115 N kb kx121 s_self v1 v2 v3) (fun v2 h => t_Md_isEndless_115 a_self a_least X hr hlk N r s_self v1 v2 v3 kb hkb kx121 hkx121 h) N 1 0 h
    · replace h := it_p c_2 h
      refine gd_aload_n X d_Md_isEndless_16 0 rfl ?_
      refine gd_iload_n X d_Md_isEndless_17 1 rfl ?_
      refine gd_iload_n X d_Md_isEndless_18 3 rfl ?_
      obtain ⟨r_3, hc_4, h⟩ := bd1_e h
      refine gd_fI X (gd_V X (As := [.int v1, .int v3]) (rest := []) (c_Md_reaches l D K a_self a_least s_self v1 v3 r_3 hc_4) 2 (gi_V ml_Md_175 u_Md_reaches) rfl ⟨rfl, rfl⟩ (by decide +kernel) ⟨by decide, by decide⟩ (ci := 7) rfl rfl rfl rfl rfl rfl (Nat.le_of_ble_eq_true rfl) ⟨Nat.zero_le _, Nat.zero_le _⟩ d_Md_isEndless_19) ?_
      refine gd_if_eq X (tgt := 40) d_Md_isEndless_22 (by decide) (fun c_5 => ?_) (fun c_5 => ?_)
      · replace h := it_p c_5 h
        refine gd_iconst X (v := 0) d_Md_isEndless_40 (by decide) ?_
        refine gd_istore_n X (lv' := [(2, .int 0), (0, .ref (a_self 0)), (1, .int v1), (3, .int v3)]) d_Md_isEndless_41 rfl (by decide) rfl ?_
        refine gd_iconst X (v := 0) d_Md_isEndless_42 (by decide) ?_
        refine gd_istore X (lv' := [(4, .int 0), (2, .int 0), (0, .ref (a_self 0)), (1, .int v1), (3, .int v3)]) d_Md_isEndless_43 (by decide) rfl ?_
        refine gd_loc (lv' := [(0, .ref (a_self 0)), (1, .int v1), (2, .int 0), (3, .int v3), (4, .int 0)]) [2, 3, 1, 4, 0] rfl ?_
        exact tl_Md_isEndless_45 a_self a_least X hr hlk N r s_self v1 v3 (fun v2 => f_Md_isEndless_115 N kb kx121 s_self v1 v2 v3) (fun v2 h => t_Md_isEndless_115 a_self a_least X hr hlk N r s_self v1 v2 v3 kb hkb kx121 hkx121 h) N 0 0 h
      · replace h := it_n c_5 h
        refine gd_aload_n X d_Md_isEndless_25 0 rfl ?_
        refine gd_get X (ci := 7) (C := R_Md) (T := F_Md) (N := 36) (v := .ref (a_self 16)) 0 0 rfl rfl rfl (in_Md _) 27 (by decide) (List.mem_cons_of_mem _ fl_Md_60) rfl rfl d_Md_isEndless_26 ?_
        refine gd_iload_n X d_Md_isEndless_29 3 rfl ?_
        obtain ⟨hi_6, h⟩ := ck_e h
        refine gd_iald X 0 16 0 rfl rfl rfl hi_6 d_Md_isEndless_30 ?_
        refine gd_bipush X (v := (-3)) d_Md_isEndless_31 (by decide) ?_
        refine gd_icmp_ne X (tgt := 40) d_Md_isEndless_33 (by decide) (fun c_7 => ?_) (fun c_7 => ?_)
        · replace h := it_n c_7 h
          refine gd_iconst X (v := 0) d_Md_isEndless_40 (by decide) ?_
          refine gd_istore_n X (lv' := [(2, .int 0), (0, .ref (a_self 0)), (1, .int v1), (3, .int v3)]) d_Md_isEndless_41 rfl (by decide) rfl ?_
          refine gd_iconst X (v := 0) d_Md_isEndless_42 (by decide) ?_
          refine gd_istore X (lv' := [(4, .int 0), (2, .int 0), (0, .ref (a_self 0)), (1, .int v1), (3, .int v3)]) d_Md_isEndless_43 (by decide) rfl ?_
          refine gd_loc (lv' := [(0, .ref (a_self 0)), (1, .int v1), (2, .int 0), (3, .int v3), (4, .int 0)]) [2, 3, 1, 4, 0] rfl ?_
          exact tl_Md_isEndless_45 a_self a_least X hr hlk N r s_self v1 v3 (fun v2 => f_Md_isEndless_115 N kb kx121 s_self v1 v2 v3) (fun v2 h => t_Md_isEndless_115 a_self a_least X hr hlk N r s_self v1 v2 v3 kb hkb kx121 hkx121 h) N 0 0 h
        · replace h := it_p c_7 h
          refine gd_iconst X (v := 1) d_Md_isEndless_36 (by decide) ?_
          refine gd_goto X (tgt := 41) d_Md_isEndless_37 (by decide) ?_
          refine gd_istore_n X (lv' := [(2, .int 1), (0, .ref (a_self 0)), (1, .int v1), (3, .int v3)]) d_Md_isEndless_41 rfl (by decide) rfl ?_
          refine gd_iconst X (v := 0) d_Md_isEndless_42 (by decide) ?_
          refine gd_istore X (lv' := [(4, .int 0), (2, .int 1), (0, .ref (a_self 0)), (1, .int v1), (3, .int v3)]) d_Md_isEndless_43 (by decide) rfl ?_
          refine gd_loc (lv' := [(0, .ref (a_self 0)), (1, .int v1), (2, .int 1), (3, .int v3), (4, .int 0)]) [2, 3, 1, 4, 0] rfl ?_
          exact tl_Md_isEndless_45 a_self a_least X hr hlk N r s_self v1 v3 (fun v2 => f_Md_isEndless_115 N kb kx121 s_self v1 v2 v3) (fun v2 h => t_Md_isEndless_115 a_self a_least X hr hlk N r s_self v1 v2 v3 kb hkb kx121 hkx121 h) N 1 0 h
def f_Md_isEndless_121 (N : Nat) (s_self : Nat → Nat → Int32) (v2 : Int32) : Option ((Int32)) :=
  cb v2 <|
  some (v2)
set_option maxHeartbeats 4000000 in
set_option maxRecDepth 100000 in
theorem t_Md_isEndless_121 {p : Program} {l : Launch} {e : Env} {s : State} {m : MethodId} {args : Array Value} {below : List Frame} {meth : Method} {c : Code} {A : Nat → Prop} {D : va_G} {K : Nat → ClassId} (a_self a_least : Nat → Nat) (X : gx p s m args c b_Md_isEndless 5 R_Md w_Md_isEndless D classes (tyK K) A) (hr : meth.sig.returnType = some .boolean) (hlk : meth.locks = false) (N : Nat) (r : Int32) (s_self : Nat → Nat → Int32) (v2 : Int32) (h : f_Md_isEndless_121 N s_self v2 = some r) : Gd p l e rm_Md_isEndless s m args below meth c 0 0 (MQ below (sq D classes (tyK K) (some (.int r)) [wd_Md K a_self (a_least 0) s_self] A) args s 0 0 A) D classes A 5 121 [wd_Md K a_self (a_least 0) s_self] [(2, .int v2)] [] := by
  unfold f_Md_isEndless_121 at h
  refine gd_iload_n X d_Md_isEndless_121 0 rfl ?_
  obtain ⟨hz_1, h⟩ := cb_e h
  cases h
  exact gd_zret X hr hlk hz_1 d_Md_isEndless_122
def l_Md_isEndless_4 (N : Nat) (s_self : Nat → Nat → Int32) (v1 : Int32) (kx121 : Int32 → Option ((Int32))) : Nat → Int32 → Int32 → Option ((Int32))
  | 0, _, _ => none
  | n + 1, v2, v3 => f_Md_isEndless_4 N (l_Md_isEndless_4 N s_self v1 kx121 n) kx121 s_self v1 v2 v3
set_option maxHeartbeats 4000000 in
set_option maxRecDepth 100000 in
theorem tl_Md_isEndless_4 {p : Program} {l : Launch} {e : Env} {s : State} {m : MethodId} {args : Array Value} {below : List Frame} {meth : Method} {c : Code} {A : Nat → Prop} {D : va_G} {K : Nat → ClassId} (a_self a_least : Nat → Nat) (X : gx p s m args c b_Md_isEndless 5 R_Md w_Md_isEndless D classes (tyK K) A) (hr : meth.sig.returnType = some .boolean) (hlk : meth.locks = false) (N : Nat) (r : Int32) (s_self : Nat → Nat → Int32) (v1 : Int32) (kx121 : Int32 → Option ((Int32))) (hkx121 : ∀ (v2 : Int32), kx121 v2 = some r → Gd p l e rm_Md_isEndless s m args below meth c 0 0 (MQ below (sq D classes (tyK K) (some (.int r)) [wd_Md K a_self (a_least 0) s_self] A) args s 0 0 A) D classes A 5 121 [wd_Md K a_self (a_least 0) s_self] [(2, .int v2)] []) : ∀ (n : Nat) (v2 v3 : Int32), l_Md_isEndless_4 N s_self v1 kx121 n v2 v3 = some r → Gd p l e rm_Md_isEndless s m args below meth c 0 0 (MQ below (sq D classes (tyK K) (some (.int r)) [wd_Md K a_self (a_least 0) s_self] A) args s 0 0 A) D classes A 5 4 [wd_Md K a_self (a_least 0) s_self] [(0, .ref (a_self 0)), (1, .int v1), (2, .int v2), (3, .int v3)] [] := by
  intro n
  induction n with
  | zero => intro v2 v3 h; have h : (none : Option ((Int32))) = some _ := h; cases h
  | succ n ih =>
    intro v2 v3 h
    exact t_Md_isEndless_4 a_self a_least X hr hlk N r s_self v1 v2 v3 (l_Md_isEndless_4 N s_self v1 kx121 n) ih kx121 hkx121 h
def f_Md_isEndless_0 (N : Nat) (s_self : Nat → Nat → Int32) (v1 : Int32) : Option ((Int32)) :=
  l_Md_isEndless_4 N s_self v1 (fun v2 => f_Md_isEndless_121 N s_self v2) N 0 0
set_option maxHeartbeats 4000000 in
set_option maxRecDepth 100000 in
theorem t_Md_isEndless_0 {p : Program} {l : Launch} {e : Env} {s : State} {m : MethodId} {args : Array Value} {below : List Frame} {meth : Method} {c : Code} {A : Nat → Prop} {D : va_G} {K : Nat → ClassId} (a_self a_least : Nat → Nat) (X : gx p s m args c b_Md_isEndless 5 R_Md w_Md_isEndless D classes (tyK K) A) (hr : meth.sig.returnType = some .boolean) (hlk : meth.locks = false) (N : Nat) (r : Int32) (s_self : Nat → Nat → Int32) (v1 : Int32) (h : f_Md_isEndless_0 N s_self v1 = some r) : Gd p l e rm_Md_isEndless s m args below meth c 0 0 (MQ below (sq D classes (tyK K) (some (.int r)) [wd_Md K a_self (a_least 0) s_self] A) args s 0 0 A) D classes A 5 0 [wd_Md K a_self (a_least 0) s_self] [(0, .ref (a_self 0)), (1, .int v1)] [] := by
  unfold f_Md_isEndless_0 at h
  refine gd_iconst X (v := 0) d_Md_isEndless_0 (by decide) ?_
  refine gd_istore_n X (lv' := [(2, .int 0), (0, .ref (a_self 0)), (1, .int v1)]) d_Md_isEndless_1 rfl (by decide) rfl ?_
  refine gd_iconst X (v := 0) d_Md_isEndless_2 (by decide) ?_
  refine gd_istore_n X (lv' := [(3, .int 0), (2, .int 0), (0, .ref (a_self 0)), (1, .int v1)]) d_Md_isEndless_3 rfl (by decide) rfl ?_
  refine gd_loc (lv' := [(0, .ref (a_self 0)), (1, .int v1), (2, .int 0), (3, .int 0)]) [2, 3, 1, 0] rfl ?_
  exact tl_Md_isEndless_4 a_self a_least X hr hlk N r s_self v1 (fun v2 => f_Md_isEndless_121 N s_self v2) (fun v2 h => t_Md_isEndless_121 a_self a_least X hr hlk N r s_self v2 h) N 0 0 h
def m_Md_isEndless (N : Nat) (s_self : Nat → Nat → Int32) (v1 : Int32) : Option ((Int32)) := f_Md_isEndless_0 N s_self v1
set_option maxHeartbeats 4000000 in
set_option maxRecDepth 100000 in
theorem c_Md_isEndless (l : Launch) (D : va_G) (K : Nat → ClassId) (a_self a_least : Nat → Nat) (N : Nat) (s_self : Nat → Nat → Int32) (v1 : Int32) (r : Int32) (h : m_Md_isEndless N s_self v1 = some r) : SMet l y_Md_isEndless w_Md_isEndless rm_Md_isEndless D classes (tyK K) [.ref (a_self 0), .int v1] (some (.int r)) [wd_Md K a_self (a_least 0) s_self] [wd_Md K a_self (a_least 0) s_self] := by
  refine sm_of R_Md (by decide) rfl rfl (Nat.le_of_ble_eq_true rfl) ?_
  intro p e s m below meth c A X hr hlk
  refine gd_loc (lv' := [(0, .ref (a_self 0)), (1, .int v1)]) [0, 1] rfl ?_
  exact t_Md_isEndless_0 a_self a_least X hr hlk N r s_self v1 h
