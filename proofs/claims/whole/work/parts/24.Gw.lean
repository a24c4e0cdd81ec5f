abbrev b_Gw_readCodes : ByteArray := prog_4_method_3_code
def y_Gw_readCodes : MethodName := ⟨R_Gw, "readCodes", "(LRuleTrees$Symbols;I)I"⟩
def w_Gw_readCodes : List Cond := .code y_Gw_readCodes b_Gw_readCodes 6 (some .int) :: TB
theorem k_Gw_readCodes : Cond.code y_Gw_readCodes b_Gw_readCodes 6 (some .int) ∈ TB := tb_of 605 (by decide +kernel) (by decide +kernel)
theorem d_Gw_readCodes_0 : decode b_Gw_readCodes 0 = .ok (.iconst 1, 1) := by decide +kernel
theorem d_Gw_readCodes_1 : decode b_Gw_readCodes 1 = .ok (.istore_n 3, 1) := by decide +kernel
theorem d_Gw_readCodes_2 : decode b_Gw_readCodes 2 = .ok (.aload_n 0, 1) := by decide +kernel
theorem d_Gw_readCodes_3 : decode b_Gw_readCodes 3 = .ok (.getfield 15, 3) := by decide +kernel
theorem d_Gw_readCodes_6 : decode b_Gw_readCodes 6 = .ok (.iconst 0, 1) := by decide +kernel
theorem d_Gw_readCodes_7 : decode b_Gw_readCodes 7 = .ok (.iload_n 2, 1) := by decide +kernel
theorem d_Gw_readCodes_8 : decode b_Gw_readCodes 8 = .ok (.iastore, 1) := by decide +kernel
theorem d_Gw_readCodes_9 : decode b_Gw_readCodes 9 = .ok (.iconst 0, 1) := by decide +kernel
theorem d_Gw_readCodes_10 : decode b_Gw_readCodes 10 = .ok (.istore 4, 2) := by decide +kernel
theorem d_Gw_readCodes_12 : decode b_Gw_readCodes 12 = .ok (.iload 4, 2) := by decide +kernel
theorem d_Gw_readCodes_14 : decode b_Gw_readCodes 14 = .ok (.aload_n 1, 1) := by decide +kernel
theorem d_Gw_readCodes_15 : decode b_Gw_readCodes 15 = .ok (.getfield 46, 3) := by decide +kernel
theorem d_Gw_readCodes_18 : decode b_Gw_readCodes 18 = .ok (.if_icmp .ge 74, 3) := by decide +kernel
theorem d_Gw_readCodes_21 : decode b_Gw_readCodes 21 = .ok (.aload_n 1, 1) := by decide +kernel
theorem d_Gw_readCodes_22 : decode b_Gw_readCodes 22 = .ok (.iload 4, 2) := by decide +kernel
theorem d_Gw_readCodes_24 : decode b_Gw_readCodes 24 = .ok (.invokevirtual 49, 3) := by decide +kernel
theorem d_Gw_readCodes_27 : decode b_Gw_readCodes 27 = .ok (.istore 5, 2) := by decide +kernel
theorem d_Gw_readCodes_29 : decode b_Gw_readCodes 29 = .ok (.aload_n 0, 1) := by decide +kernel
theorem d_Gw_readCodes_30 : decode b_Gw_readCodes 30 = .ok (.iload 4, 2) := by decide +kernel
theorem d_Gw_readCodes_32 : decode b_Gw_readCodes 32 = .ok (.putfield 34, 3) := by decide +kernel
theorem d_Gw_readCodes_35 : decode b_Gw_readCodes 35 = .ok (.iload_n 3, 1) := by decide +kernel
theorem d_Gw_readCodes_36 : decode b_Gw_readCodes 36 = .ok (.ifCond .ne 5, 3) := by decide +kernel
theorem d_Gw_readCodes_39 : decode b_Gw_readCodes 39 = .ok (.iconst 4, 1) := by decide +kernel
theorem d_Gw_readCodes_40 : decode b_Gw_readCodes 40 = .ok (.ireturn, 1) := by decide +kernel
theorem d_Gw_readCodes_41 : decode b_Gw_readCodes 41 = .ok (.iinc 3 (-1), 3) := by decide +kernel
theorem d_Gw_readCodes_44 : decode b_Gw_readCodes 44 = .ok (.aload_n 0, 1) := by decide +kernel
theorem d_Gw_readCodes_45 : decode b_Gw_readCodes 45 = .ok (.getfield 9, 3) := by decide +kernel
theorem d_Gw_readCodes_48 : decode b_Gw_readCodes 48 = .ok (.iload 5, 2) := by decide +kernel
theorem d_Gw_readCodes_50 : decode b_Gw_readCodes 50 = .ok (.invokevirtual 53, 3) := by decide +kernel
theorem d_Gw_readCodes_53 : decode b_Gw_readCodes 53 = .ok (.ifCond .ne 5, 3) := by decide +kernel
theorem d_Gw_readCodes_56 : decode b_Gw_readCodes 56 = .ok (.iconst 2, 1) := by decide +kernel
theorem d_Gw_readCodes_57 : decode b_Gw_readCodes 57 = .ok (.ireturn, 1) := by decide +kernel
theorem d_Gw_readCodes_58 : decode b_Gw_readCodes 58 = .ok (.aload_n 0, 1) := by decide +kernel
theorem d_Gw_readCodes_59 : decode b_Gw_readCodes 59 = .ok (.getfield 9, 3) := by decide +kernel
theorem d_Gw_readCodes_62 : decode b_Gw_readCodes 62 = .ok (.iload 5, 2) := by decide +kernel
theorem d_Gw_readCodes_64 : decode b_Gw_readCodes 64 = .ok (.invokevirtual 59, 3) := by decide +kernel
theorem d_Gw_readCodes_67 : decode b_Gw_readCodes 67 = .ok (.aload_n 0, 1) := by decide +kernel
theorem d_Gw_readCodes_68 : decode b_Gw_readCodes 68 = .ok (.getfield 15, 3) := by decide +kernel
theorem d_Gw_readCodes_71 : decode b_Gw_readCodes 71 = .ok (.iload_n 3, 1) := by decide +kernel
theorem d_Gw_readCodes_72 : decode b_Gw_readCodes 72 = .ok (.iaload, 1) := by decide +kernel
theorem d_Gw_readCodes_73 : decode b_Gw_readCodes 73 = .ok (.if_icmp .eq 5, 3) := by decide +kernel
theorem d_Gw_readCodes_76 : decode b_Gw_readCodes 76 = .ok (.iconst 3, 1) := by decide +kernel
theorem d_Gw_readCodes_77 : decode b_Gw_readCodes 77 = .ok (.ireturn, 1) := by decide +kernel
theorem d_Gw_readCodes_78 : decode b_Gw_readCodes 78 = .ok (.aload_n 0, 1) := by decide +kernel
theorem d_Gw_readCodes_79 : decode b_Gw_readCodes 79 = .ok (.iload 5, 2) := by decide +kernel
theorem d_Gw_readCodes_81 : decode b_Gw_readCodes 81 = .ok (.iload_n 3, 1) := by decide +kernel
theorem d_Gw_readCodes_82 : decode b_Gw_readCodes 82 = .ok (.invokevirtual 62, 3) := by decide +kernel
theorem d_Gw_readCodes_85 : decode b_Gw_readCodes 85 = .ok (.istore_n 3, 1) := by decide +kernel
theorem d_Gw_readCodes_86 : decode b_Gw_readCodes 86 = .ok (.iinc 4 1, 3) := by decide +kernel
theorem d_Gw_readCodes_89 : decode b_Gw_readCodes 89 = .ok (.goto (-77), 3) := by decide +kernel
theorem d_Gw_readCodes_92 : decode b_Gw_readCodes 92 = .ok (.aload_n 0, 1) := by decide +kernel
theorem d_Gw_readCodes_93 : decode b_Gw_readCodes 93 = .ok (.aload_n 1, 1) := by decide +kernel
theorem d_Gw_readCodes_94 : decode b_Gw_readCodes 94 = .ok (.getfield 46, 3) := by decide +kernel
theorem d_Gw_readCodes_97 : decode b_Gw_readCodes 97 = .ok (.putfield 34, 3) := by decide +kernel
theorem d_Gw_readCodes_100 : decode b_Gw_readCodes 100 = .ok (.iload_n 3, 1) := by decide +kernel
theorem d_Gw_readCodes_101 : decode b_Gw_readCodes 101 = .ok (.ifCond .le 7, 3) := by decide +kernel
theorem d_Gw_readCodes_104 : decode b_Gw_readCodes 104 = .ok (.iconst 1, 1) := by decide +kernel
theorem d_Gw_readCodes_105 : decode b_Gw_readCodes 105 = .ok (.goto 4, 3) := by decide +kernel
theorem d_Gw_readCodes_108 : decode b_Gw_readCodes 108 = .ok (.iconst 0, 1) := by decide +kernel
theorem d_Gw_readCodes_109 : decode b_Gw_readCodes 109 = .ok (.ireturn, 1) := by decide +kernel
theorem fl_Gw_34 : Cond.fieldLink R_Gw 34 "RuleTrees$Grower" "faultPlace" "I" ∈ TB := tb_of 229 (by decide +kernel) (by decide +kernel)
theorem ml_Gw_53 : Cond.methodLink R_Gw 53 ⟨"RuleTrees$Grammar", "hasCode", "(I)Z"⟩ ∈ TB := tb_of 607 (by decide +kernel) (by decide +kernel)
theorem ml_Gw_59 : Cond.methodLink R_Gw 59 ⟨"RuleTrees$Grammar", "sortOfCode", "(I)I"⟩ ∈ TB := tb_of 608 (by decide +kernel) (by decide +kernel)
theorem ml_Gw_62 : Cond.methodLink R_Gw 62 ⟨"RuleTrees$Grower", "awaitParts", "(II)I"⟩ ∈ TB := tb_of 609 (by decide +kernel) (by decide +kernel)
theorem u_Gw_awaitParts : (Cond.instanceMethod y_Gw_awaitParts ∈ TB ∧ Cond.selects R_Gw y_Gw_awaitParts y_Gw_awaitParts ∈ TB) ∧ Cond.initialized R_Gw ∈ TB ∧ Cond.code y_Gw_awaitParts b_Gw_awaitParts 5 (some .int) ∈ TB := ⟨⟨(tb_of 611 (by decide +kernel) (by decide +kernel)), (tb_of 24 (by decide +kernel) (by decide +kernel))⟩, (tb_of 66 (by decide +kernel) (by decide +kernel)), k_Gw_awaitParts⟩
abbrev rm_Gw_readCodes : Room := { frames := 3, cells := 0, slots := 0, locals := 67 }
def f_Gw_readCodes_12 (N : Nat) (n_p0 : Nat) (kb : (Nat → Nat → Int32) → Int32 → Int32 → Option ((Int32) × (Nat → Nat → Int32))) (kx39 : (Nat → Nat → Int32) → Option ((Int32) × (Nat → Nat → Int32))) (kx56 : (Nat → Nat → Int32) → Option ((Int32) × (Nat → Nat → Int32))) (kx76 : (Nat → Nat → Int32) → Option ((Int32) × (Nat → Nat → Int32))) (kx92 : (Nat → Nat → Int32) → Int32 → Option ((Int32) × (Nat → Nat → Int32))) (s_self s_grammar s_p0 : Nat → Nat → Int32) (v3 v4 : Int32) : Option ((Int32) × (Nat → Nat → Int32)) :=
  if (s_p0 0 1) ≤ v4 then
    kx92 s_self v3
  else
    bd1 (m_Sy_at n_p0 s_p0 v4) fun r_2 =>
    nm (st2 s_self 0 6 v4) fun s_self_4 =>
    if v3 = 0 then
      kx39 s_self_4
    else
      nm (v3 + (-1)) fun v3_6 =>
      bd1 (m_Gr_hasCode s_grammar r_2) fun r_7 =>
      if r_7 = 0 then
        kx56 s_self_4
      else
        bd1 (m_Gr_sortOfCode s_grammar r_2) fun r_10 =>
        ck v3_6 601 <|
        if r_10 = (s_self_4 1 (Int32.toNatClampNeg v3_6)) then
          bd2 (m_Gw_awaitParts N s_self_4 s_grammar r_2 v3_6) fun r_14 s_self_15 =>
          nm (v4 + 1) fun v4_17 =>
          kb s_self_15 r_14 v4_17
        else
          kx76 s_self_4
set_option maxHeartbeats 4000000 in
set_option maxRecDepth 100000 in
theorem t_Gw_readCodes_12 {p : Program} {l : Launch} {e : Env} {s : State} {m : MethodId} {args : Array Value} {below : List Frame} {meth : Method} {c : Code} {A : Nat → Prop} {D : va_G} {K : Nat → ClassId} (a_self a_grammar a_grown a_joined a_p0 : Nat → Nat) (n_p0 : Nat) (X : gx p s m args c b_Gw_readCodes 6 R_Gw w_Gw_readCodes D classes (tyK K) A) (hr : meth.sig.returnType = some .int) (hlk : meth.locks = false) (N : Nat) (r : Int32) (f_self : Nat → Nat → Int32) (s_self s_grammar s_p0 : Nat → Nat → Int32) (v3 v4 : Int32) (kb : (Nat → Nat → Int32) → Int32 → Int32 → Option ((Int32) × (Nat → Nat → Int32))) (hkb : ∀ (s_self : Nat → Nat → Int32) (v3 v4 : Int32), kb s_self v3 v4 = some (r, f_self) → Gd p l e rm_Gw_readCodes s m args below meth c 0 0 (MQ below (sq D classes (tyK K) (some (.int r)) [wd_Gw K a_self (a_grammar 0) (a_grown 0) (a_joined 0) f_self, wd_Gr K a_grammar s_grammar, wd_Sy K a_p0 n_p0 s_p0] A) args s 0 0 A) D classes A 6 12 [wd_Gw K a_self (a_grammar 0) (a_grown 0) (a_joined 0) s_self, wd_Gr K a_grammar s_grammar, wd_Sy K a_p0 n_p0 s_p0] [(0, .ref (a_self 0)), (1, .ref (a_p0 0)), (3, .int v3), (4, .int v4)] []) (kx39 : (Nat → Nat → Int32) → Option ((Int32) × (Nat → Nat → Int32))) (hkx39 : ∀ (s_self : Nat → Nat → Int32), kx39 s_self = some (r, f_self) → Gd p l e rm_Gw_readCodes s m args below meth c 0 0 (MQ below (sq D classes (tyK K) (some (.int r)) [wd_Gw K a_self (a_grammar 0) (a_grown 0) (a_joined 0) f_self, wd_Gr K a_grammar s_grammar, wd_Sy K a_p0 n_p0 s_p0] A) args s 0 0 A) D classes A 6 39 [wd_Gw K a_self (a_grammar 0) (a_grown 0) (a_joined 0) s_self, wd_Gr K a_grammar s_grammar, wd_Sy K a_p0 n_p0 s_p0] [] []) (kx56 : (Nat → Nat → Int32) → Option ((Int32) × (Nat → Nat → Int32))) (hkx56 : ∀ (s_self : Nat → Nat → Int32), kx56 s_self = some (r, f_self) → Gd p l e rm_Gw_readCodes s m args below meth c 0 0 (MQ below (sq D classes (tyK K) (some (.int r)) [wd_Gw K a_self (a_grammar 0) (a_grown 0) (a_joined 0) f_self, wd_Gr K a_grammar s_grammar, wd_Sy K a_p0 n_p0 s_p0] A) args s 0 0 A) D classes A 6 56 [wd_Gw K a_self (a_grammar 0) (a_grown 0) (a_joined 0) s_self, wd_Gr K a_grammar s_grammar, wd_Sy K a_p0 n_p0 s_p0] [] []) (kx76 : (Nat → Nat → Int32) → Option ((Int32) × (Nat → Nat → Int32))) (hkx76 : ∀ (s_self : Nat → Nat → Int32), kx76 s_self = some (r, f_self) → Gd p l e rm_Gw_readCodes s m args below meth c 0 0 (MQ below (sq D classes (tyK K) (some (.int r)) [wd_Gw K a_self (a_grammar 0) (a_grown 0) (a_joined 0) f_self, wd_Gr K a_grammar s_grammar, wd_Sy K a_p0 n_p0 s_p0] A) args s 0 0 A) D classes A 6 76 [wd_Gw K a_self (a_grammar 0) (a_grown 0) (a_joined 0) s_self, wd_Gr K a_grammar s_grammar, wd_Sy K a_p0 n_p0 s_p0] [] []) (kx92 : (Nat → Nat → Int32) → Int32 → Option ((Int32) × (Nat → Nat → Int32))) (hkx92 : ∀ (s_self : Nat → Nat → Int32) (v3 : Int32), kx92 s_self v3 = some (r, f_self) → Gd p l e rm_Gw_readCodes s m args below meth c 0 0 (MQ below (sq D classes (tyK K) (some (.int r)) [wd_Gw K a_self (a_grammar 0) (a_grown 0) (a_joined 0) f_self, wd_Gr K a_grammar s_grammar, wd_Sy K a_p0 n_p0 s_p0] A) args s 0 0 A) D classes A 6 92 [wd_Gw K a_self (a_grammar 0) (a_grown 0) (a_joined 0) s_self, wd_Gr K a_grammar s_grammar, wd_Sy K a_p0 n_p0 s_p0] [(0, .ref (a_self 0)), (1, .ref (a_p0 0)), (3, .int v3)] []) (h : f_Gw_readCodes_12 N n_p0 kb kx39 kx56 kx76 kx92 s_self s_grammar s_p0 v3 v4 = some (r, f_self)) : Gd p l e rm_Gw_readCodes s m args below meth c 0 0 (MQ below (sq D classes (tyK K) (some (.int r)) [wd_Gw K a_self (a_grammar 0) (a_grown 0) (a_joined 0) f_self, wd_Gr K a_grammar s_grammar, wd_Sy K a_p0 n_p0 s_p0] A) args s 0 0 A) D classes A 6 12 [wd_Gw K a_self (a_grammar 0) (a_grown 0) (a_joined 0) s_self, wd_Gr K a_grammar s_grammar, wd_Sy K a_p0 n_p0 s_p0] [(0, .ref (a_self 0)), (1, .ref (a_p0 0)), (3, .int v3), (4, .int v4)] [] := by
  unfold f_Gw_readCodes_12 at h
  refine gd_iload X d_Gw_readCodes_12 3 rfl ?_
  refine gd_aload_n X d_Gw_readCodes_14 1 rfl ?_
  refine gd_get X (ci := 0) (C := R_Sy) (T := F_Sy) (N := 2) (v := .int (s_p0 0 1)) 2 0 rfl rfl rfl (in_Sy _) 1 (by decide) (List.mem_cons_of_mem _ fl_Gw_46) rfl rfl d_Gw_readCodes_15 ?_
  refine gd_icmp_ge X (tgt := 92) d_Gw_readCodes_18 (by decide) (fun c_1 => ?_) (fun c_1 => ?_)
  · replace h := it_p c_1 h
    refine gd_loc (lv' := [(0, .ref (a_self 0)), (1, .ref (a_p0 0)), (3, .int v3)]) [0, 1, 2] rfl ?_
    exact hkx92 s_self v3 h
  · replace h := it_n c_1 h
    refine gd_aload_n X d_Gw_readCodes_21 1 rfl ?_
    refine gd_iload X d_Gw_readCodes_22 3 rfl ?_
    obtain ⟨r_2, hc_3, h⟩ := bd1_e h
    refine gd_pI X (gd_V X (As := [.int v4]) (rest := []) (c_Sy_at l D K a_p0 n_p0 s_p0 v4 r_2 hc_3) 1 (gi_V ml_Gw_49 u_Sy_at) rfl ⟨rfl, rfl⟩ (by decide +kernel) ⟨by decide, by decide⟩ (ci := 0) rfl rfl rfl rfl rfl rfl (Nat.le_of_ble_eq_true rfl) ⟨Nat.zero_le _, Nat.zero_le _⟩ d_Gw_readCodes_24) [2] rfl rfl ?_
    refine gd_istore X (lv' := [(5, .int r_2), (0, .ref (a_self 0)), (1, .ref (a_p0 0)), (3, .int v3), (4, .int v4)]) d_Gw_readCodes_27 (by decide) rfl ?_
    refine gd_aload_n X d_Gw_readCodes_29 1 rfl ?_
    refine gd_iload X d_Gw_readCodes_30 4 rfl ?_
    obtain ⟨s_self_4, es_self_4, h⟩ := nm_e' h
    refine gd_put X (ci := 4) (C := R_Gw) (T := F_Gw) (N := 7) (ty := .int) (w' := [wd_Gw K a_self (a_grammar 0) (a_grown 0) (a_joined 0) s_self_4, wd_Gr K a_grammar s_grammar, wd_Sy K a_p0 n_p0 s_p0]) 0 0 rfl rfl rfl (in_Gw _) t_Gw t_Gw_ok n_Gw 6 (by decide) (List.mem_cons_of_mem _ fl_Gw_34) rfl rfl (by decide +kernel) rfl rfl (Nat.le_of_ble_eq_true rfl) d_Gw_readCodes_32 (by rw [es_self_4]; rfl) ?_
    refine gd_iload_n X d_Gw_readCodes_35 3 rfl ?_
    refine gd_if_ne X (tgt := 41) d_Gw_readCodes_36 (by decide) (fun c_5 => ?_) (fun c_5 => ?_)
    · replace h := it_n c_5 h
      obtain ⟨v3_6, ev3_6, h⟩ := nm_e' h
      refine gd_iinc X (v := v3_6) (lv' := [(3, .int v3_6), (5, .int r_2), (0, .ref (a_self 0)), (1, .ref (a_p0 0)), (4, .int v4)]) d_Gw_readCodes_41 (k := 3) rfl (by rw [ev3_6, show Int32.ofInt (-1) = (-1) from by decide]) (by decide) rfl ?_
      refine gd_aload_n X d_Gw_readCodes_44 2 rfl ?_
      refine gd_get X (ci := 4) (C := R_Gw) (T := F_Gw) (N := 7) (v := .ref (a_grammar 0)) 0 0 rfl rfl rfl (in_Gw _) 0 (by decide) (List.mem_cons_of_mem _ fl_Gw_9) rfl rfl d_Gw_readCodes_45 ?_
      refine gd_iload X d_Gw_readCodes_48 1 rfl ?_
      obtain ⟨r_7, hc_8, h⟩ := bd1_e h
      refine gd_pI X (gd_V X (As := [.int r_2]) (rest := []) (c_Gr_hasCode l D K a_grammar s_grammar r_2 r_7 hc_8) 1 (gi_V ml_Gw_53 u_Gr_hasCode) rfl ⟨rfl, rfl⟩ (by decide +kernel) ⟨by decide, by decide⟩ (ci := 1) rfl rfl rfl rfl rfl rfl (Nat.le_of_ble_eq_true rfl) ⟨Nat.zero_le _, Nat.zero_le _⟩ d_Gw_readCodes_50) [1] rfl rfl ?_
      refine gd_if_ne X (tgt := 58) d_Gw_readCodes_53 (by decide) (fun c_9 => ?_) (fun c_9 => ?_)
      · replace h := it_n c_9 h
        refine gd_aload_n X d_Gw_readCodes_58 2 rfl ?_
        refine gd_get X (ci := 4) (C := R_Gw) (T := F_Gw) (N := 7) (v := .ref (a_grammar 0)) 0 0 rfl rfl rfl (in_Gw _) 0 (by decide) (List.mem_cons_of_mem _ fl_Gw_9) rfl rfl d_Gw_readCodes_59 ?_
        refine gd_iload X d_Gw_readCodes_62 1 rfl ?_
        obtain ⟨r_10, hc_11, h⟩ := bd1_e h
        refine gd_pI X (gd_V X (As := [.int r_2]) (rest := []) (c_Gr_sortOfCode l D K a_grammar s_grammar r_2 r_10 hc_11) 1 (gi_V ml_Gw_59 u_Gr_sortOfCode) rfl ⟨rfl, rfl⟩ (by decide +kernel) ⟨by decide, by decide⟩ (ci := 1) rfl rfl rfl rfl rfl rfl (Nat.le_of_ble_eq_true rfl) ⟨Nat.zero_le _, Nat.zero_le _⟩ d_Gw_readCodes_64) [1] rfl rfl ?_
        refine gd_aload_n X d_Gw_readCodes_67 2 rfl ?_
        refine gd_get X (ci := 4) (C := R_Gw) (T := F_Gw) (N := 7) (v := .ref (a_self 1)) 0 0 rfl rfl rfl (in_Gw _) 1 (by decide) (List.mem_cons_of_mem _ fl_Gw_15) rfl rfl d_Gw_readCodes_68 ?_
        refine gd_iload_n X d_Gw_readCodes_71 0 rfl ?_
        obtain ⟨hi_12, h⟩ := ck_e h
        refine gd_iald X 0 1 0 rfl rfl rfl hi_12 d_Gw_readCodes_72 ?_
        refine gd_icmp_eq X (tgt := 78) d_Gw_readCodes_73 (by decide) (fun c_13 => ?_) (fun c_13 => ?_)
        · replace h := it_p c_13 h
          refine gd_aload_n X d_Gw_readCodes_78 2 rfl ?_
          refine gd_iload X d_Gw_readCodes_79 1 rfl ?_
          refine gd_iload_n X d_Gw_readCodes_81 0 rfl ?_
          obtain ⟨r_14, s_self_15, hc_16, h⟩ := bd2_e h
          refine gd_cI X (gd_V X (As := [.int r_2, .int v3_6]) (rest := []) (c_Gw_awaitParts l D K a_self a_grammar a_grown a_joined N s_self_4 s_grammar r_2 v3_6 r_14 s_self_15 hc_16) 2 (gi_V ml_Gw_62 u_Gw_awaitParts) rfl ⟨rfl, rfl⟩ (by decide +kernel) ⟨by decide, by decide⟩ (ci := 4) rfl rfl rfl rfl rfl rfl (Nat.le_of_ble_eq_true rfl) ⟨Nat.zero_le _, Nat.zero_le _⟩ d_Gw_readCodes_82) (w2 := [wd_Gw K a_self (a_grammar 0) (a_grown 0) (a_joined 0) s_self_15, wd_Gr K a_grammar s_grammar, wd_Sy K a_p0 n_p0 s_p0]) [0, 1] [2] rfl rfl rfl rfl ⟨rfl, rfl⟩ rfl ?_
          refine gd_istore_n X (lv' := [(3, .int r_14), (5, .int r_2), (0, .ref (a_self 0)), (1, .ref (a_p0 0)), (4, .int v4)]) d_Gw_readCodes_85 rfl (by decide) rfl ?_
          obtain ⟨v4_17, ev4_17, h⟩ := nm_e' h
          refine gd_iinc X (v := v4_17) (lv' := [(4, .int v4_17), (3, .int r_14), (5, .int r_2), (0, .ref (a_self 0)), (1, .ref (a_p0 0))]) d_Gw_readCodes_86 (k := 4) rfl (by rw [ev4_17]; rfl) (by decide) rfl ?_
          refine gd_goto X (tgt := 12) d_Gw_readCodes_89 (by decide) ?_
          refine gd_loc (lv' := [(0, .ref (a_self 0)), (1, .ref (a_p0 0)), (3, .int r_14), (4, .int v4_17)]) [3, 4, 1, 0] rfl ?_
          exact hkb s_self_15 r_14 v4_17 h
        · replace h := it_n c_13 h
          refine gd_loc (lv' := []) [] rfl ?_
          exact hkx76 s_self_4 h
      · replace h := it_p c_9 h
        refine gd_loc (lv' := []) [] rfl ?_
        exact hkx56 s_self_4 h
    · replace h := it_p c_5 h
      refine gd_loc (lv' := []) [] rfl ?_
      exact hkx39 s_self_4 h
def f_Gw_readCodes_39 (N : Nat) (n_p0 : Nat) (s_self s_grammar s_p0 : Nat → Nat → Int32) : Option ((Int32) × (Nat → Nat → Int32)) :=
  some ((4), s_self)
set_option maxHeartbeats 4000000 in
set_option maxRecDepth 100000 in
theorem t_Gw_readCodes_39 {p : Program} {l : Launch} {e : Env} {s : State} {m : MethodId} {args : Array Value} {below : List Frame} {meth : Method} {c : Code} {A : Nat → Prop} {D : va_G} {K : Nat → ClassId} (a_self a_grammar a_grown a_joined a_p0 : Nat → Nat) (n_p0 : Nat) (X : gx p s m args c b_Gw_readCodes 6 R_Gw w_Gw_readCodes D classes (tyK K) A) (hr : meth.sig.returnType = some .int) (hlk : meth.locks = false) (N : Nat) (r : Int32) (f_self : Nat → Nat → Int32) (s_self s_grammar s_p0 : Nat → Nat → Int32) (h : f_Gw_readCodes_39 N n_p0 s_self s_grammar s_p0 = some (r, f_self)) : Gd p l e rm_Gw_readCodes s m args below meth c 0 0 (MQ below (sq D classes (tyK K) (some (.int r)) [wd_Gw K a_self (a_grammar 0) (a_grown 0) (a_joined 0) f_self, wd_Gr K a_grammar s_grammar, wd_Sy K a_p0 n_p0 s_p0] A) args s 0 0 A) D classes A 6 39 [wd_Gw K a_self (a_grammar 0) (a_grown 0) (a_joined 0) s_self, wd_Gr K a_grammar s_grammar, wd_Sy K a_p0 n_p0 s_p0] [] [] := by
  unfold f_Gw_readCodes_39 at h
  refine gd_iconst X (v := 4) d_Gw_readCodes_39 (by decide) ?_
  cases h
  exact gd_iret X hr hlk d_Gw_readCodes_40
def f_Gw_readCodes_56 (N : Nat) (n_p0 : Nat) (s_self s_grammar s_p0 : Nat → Nat → Int32) : Option ((Int32) × (Nat → Nat → Int32)) :=
  some ((2), s_self)
set_option maxHeartbeats 4000000 in
set_option maxRecDepth 100000 in
theorem t_Gw_readCodes_56 {p : Program} {l : Launch} {e : Env} {s : State} {m : MethodId} {args : Array Value} {below : List Frame} {meth : Method} {c : Code} {A : Nat → Prop} {D : va_G} {K : Nat → ClassId} (a_self a_grammar a_grown a_joined a_p0 : Nat → Nat) (n_p0 : Nat) (X : gx p s m args c b_Gw_readCodes 6 R_Gw w_Gw_readCodes D classes (tyK K) A) (hr : meth.sig.returnType = some .int) (hlk : meth.locks = false) (N : Nat) (r : Int32) (f_self : Nat → Nat → Int32) (s_self s_grammar s_p0 : Nat → Nat → Int32) (h : f_Gw_readCodes_56 N n_p0 s_self s_grammar s_p0 = some (r, f_self)) : Gd p l e rm_Gw_readCodes s m args below meth c 0 0 (MQ below (sq D classes (tyK K) (some (.int r)) [wd_Gw K a_self (a_grammar 0) (a_grown 0) (a_joined 0) f_self, wd_Gr K a_grammar s_grammar, wd_Sy K a_p0 n_p0 s_p0] A) args s 0 0 A) D classes A 6 56 [wd_Gw K a_self (a_grammar 0) (a_grown 0) (a_joined 0) s_self, wd_Gr K a_grammar s_grammar, wd_Sy K a_p0 n_p0 s_p0] [] [] := by
  unfold f_Gw_readCodes_56 at h
  refine gd_iconst X (v := 2) d_Gw_readCodes_56 (by decide) ?_
  cases h
  exact gd_iret X hr hlk d_Gw_readCodes_57
def f_Gw_readCodes_76 (N : Nat) (n_p0 : Nat) (s_self s_grammar s_p0 : Nat → Nat → Int32) : Option ((Int32) × (Nat → Nat → Int32)) :=
  some ((3), s_self)
set_option maxHeartbeats 4000000 in
set_option maxRecDepth 100000 in
theorem t_Gw_readCodes_76 {p : Program} {l : Launch} {e : Env} {s : State} {m : MethodId} {args : Array Value} {below : List Frame} {meth : Method} {c : Code} {A : Nat → Prop} {D : va_G} {K : Nat → ClassId} (a_self a_grammar a_grown a_joined a_p0 : Nat → Nat) (n_p0 : Nat) (X : gx p s m args c b_Gw_readCodes 6 R_Gw w_Gw_readCodes D classes (tyK K) A) (hr : meth.sig.returnType = some .int) (hlk : meth.locks = false) (N : Nat) (r : Int32) (f_self : Nat → Nat → Int32) (s_self s_grammar s_p0 : Nat → Nat → Int32) (h : f_Gw_readCodes_76 N n_p0 s_self s_grammar s_p0 = some (r, f_self)) : Gd p l e rm_Gw_readCodes s m args below meth c 0 0 (MQ below (sq D classes (tyK K) (some (.int r)) [wd_Gw K a_self (a_grammar 0) (a_grown 0) (a_joined 0) f_self, wd_Gr K a_grammar s_grammar, wd_Sy K a_p0 n_p0 s_p0] A) args s 0 0 A) D classes A 6 76 [wd_Gw K a_self (a_grammar 0) (a_grown 0) (a_joined 0) s_self, wd_Gr K a_grammar s_grammar, wd_Sy K a_p0 n_p0 s_p0] [] [] := by
  unfold f_Gw_readCodes_76 at h
  refine gd_iconst X (v := 3) d_Gw_readCodes_76 (by decide) ?_
  cases h
  exact gd_iret X hr hlk d_Gw_readCodes_77
def f_Gw_readCodes_92 (N : Nat) (n_p0 : Nat) (s_self s_grammar s_p0 : Nat → Nat → Int32) (v3 : Int32) : Option ((Int32) × (Nat → Nat → Int32)) :=
  nm (st2 s_self 0 6 (s_p0 0 1)) fun s_self_1 =>
  if v3 ≤ 0 then
    some ((0), s_self_1)
  else
    some ((1), s_self_1)
set_option maxHeartbeats 4000000 in
set_option maxRecDepth 100000 in
theorem t_Gw_readCodes_92 {p : Program} {l : Launch} {e : Env} {s : State} {m : MethodId} {args : Array Value} {below : List Frame} {meth : Method} {c : Code} {A : Nat → Prop} {D : va_G} {K : Nat → ClassId} (a_self a_grammar a_grown a_joined a_p0 : Nat → Nat) (n_p0 : Nat) (X : gx p s m args c b_Gw_readCodes 6 R_Gw w_Gw_readCodes D classes (tyK K) A) (hr : meth.sig.returnType = some .int) (hlk : meth.locks = false) (N : Nat) (r : Int32) (f_self : Nat → Nat → Int32) (s_self s_grammar s_p0 : Nat → Nat → Int32) (v3 : Int32) (h : f_Gw_readCodes_92 N n_p0 s_self s_grammar s_p0 v3 = some (r, f_self)) : Gd p l e rm_Gw_readCodes s m args below meth c 0 0 (MQ below (sq D classes (tyK K) (some (.int r)) [wd_Gw K a_self (a_grammar 0) (a_grown 0) (a_joined 0) f_self, wd_Gr K a_grammar s_grammar, wd_Sy K a_p0 n_p0 s_p0] A) args s 0 0 A) D classes A 6 92 [wd_Gw K a_self (a_grammar 0) (a_grown 0) (a_joined 0) s_self, wd_Gr K a_grammar s_grammar, wd_Sy K a_p0 n_p0 s_p0] [(0, .ref (a_self 0)), (1, .ref (a_p0 0)), (3, .int v3)] [] := by
  unfold f_Gw_readCodes_92 at h
  refine gd_aload_n X d_Gw_readCodes_92 0 rfl ?_
  refine gd_aload_n X d_Gw_readCodes_93 1 rfl ?_
  refine gd_get X (ci := 0) (C := R_Sy) (T := F_Sy) (N := 2) (v := .int (s_p0 0 1)) 2 0 rfl rfl rfl (in_Sy _) 1 (by decide) (List.mem_cons_of_mem _ fl_Gw_46) rfl rfl d_Gw_readCodes_94 ?_
  obtain ⟨s_self_1, es_self_1, h⟩ := nm_e' h
  refine gd_put X (ci := 4) (C := R_Gw) (T := F_Gw) (N := 7) (ty := .int) (w' := [wd_Gw K a_self (a_grammar 0) (a_grown 0) (a_joined 0) s_self_1, wd_Gr K a_grammar s_grammar, wd_Sy K a_p0 n_p0 s_p0]) 0 0 rfl rfl rfl (in_Gw _) t_Gw t_Gw_ok n_Gw 6 (by decide) (List.mem_cons_of_mem _ fl_Gw_34) rfl rfl (by decide +kernel) rfl rfl (Nat.le_of_ble_eq_true rfl) d_Gw_readCodes_97 (by rw [es_self_1]; rfl) ?_
  refine gd_iload_n X d_Gw_readCodes_100 2 rfl ?_
  refine gd_if_le X (tgt := 108) d_Gw_readCodes_101 (by decide) (fun c_2 => ?_) (fun c_2 => ?_)
  · replace h := it_p c_2 h
    refine gd_iconst X (v := 0) d_Gw_readCodes_108 (by decide) ?_
    cases h
    exact gd_iret X hr hlk d_Gw_readCodes_109
  · replace h := it_n c_2 h
    refine gd_iconst X (v := 1) d_Gw_readCodes_104 (by decide) ?_
    refine gd_goto X (tgt := 109) d_Gw_readCodes_105 (by decide) ?_
    cases h
    exact gd_iret X hr hlk d_Gw_readCodes_109
def l_Gw_readCodes_12 (N : Nat) (n_p0 : Nat) (s_grammar s_p0 : Nat → Nat → Int32) (kx39 : (Nat → Nat → Int32) → Option ((Int32) × (Nat → Nat → Int32))) (kx56 : (Nat → Nat → Int32) → Option ((Int32) × (Nat → Nat → Int32))) (kx76 : (Nat → Nat → Int32) → Option ((Int32) × (Nat → Nat → Int32))) (kx92 : (Nat → Nat → Int32) → Int32 → Option ((Int32) × (Nat → Nat → Int32))) : Nat → (Nat → Nat → Int32) → Int32 → Int32 → Option ((Int32) × (Nat → Nat → Int32))
  | 0, _, _, _ => none
  | n + 1, s_self, v3, v4 => f_Gw_readCodes_12 N n_p0 (l_Gw_readCodes_12 N n_p0 s_grammar s_p0 kx39 kx56 kx76 kx92 n) kx39 kx56 kx76 kx92 s_self s_grammar s_p0 v3 v4
set_option maxHeartbeats 4000000 in
set_option maxRecDepth 100000 in
theorem tl_Gw_readCodes_12 {p : Program} {l : Launch} {e : Env} {s : State} {m : MethodId} {args : Array Value} {below : List Frame} {meth : Method} {c : Code} {A : Nat → Prop} {D : va_G} {K : Nat → ClassId} (a_self a_grammar a_grown a_joined a_p0 : Nat → Nat) (n_p0 : Nat) (X : gx p s m args c b_Gw_readCodes 6 R_Gw w_Gw_readCodes D classes (tyK K) A) (hr : meth.sig.returnType = some .int) (hlk : meth.locks = false) (N : Nat) (r : Int32) (f_self : Nat → Nat → Int32) (s_grammar s_p0 : Nat → Nat → Int32) (kx39 : (Nat → Nat → Int32) → Option ((Int32) × (Nat → Nat → Int32))) (hkx39 : ∀ (s_self : Nat → Nat → Int32), kx39 s_self = some (r, f_self) → Gd p l e rm_Gw_readCodes s m args below meth c 0 0 (MQ below (sq D classes (tyK K) (some (.int r)) [wd_Gw K a_self (a_grammar 0) (a_grown 0) (a_joined 0) f_self, wd_Gr K a_grammar s_grammar, wd_Sy K a_p0 n_p0 s_p0] A) args s 0 0 A) D classes A 6 39 [wd_Gw K a_self (a_grammar 0) (a_grown 0) (a_joined 0) s_self, wd_Gr K a_grammar s_grammar, wd_Sy K a_p0 n_p0 s_p0] [] []) (kx56 : (Nat → Nat → Int32) → Option ((Int32) × (Nat → Nat → Int32))) (hkx56 : ∀ (s_self : Nat → Nat → Int32), kx56 s_self = some (r, f_self) → Gd p l e rm_Gw_readCodes s m args below meth c 0 0 (MQ below (sq D classes (tyK K) (some (.int r)) [wd_Gw K a_self (a_grammar 0) (a_grown 0) (a_joined 0) f_self, wd_Gr K a_grammar s_grammar, wd_Sy K a_p0 n_p0 s_p0] A) args s 0 0 A) D classes A 6 56 [wd_Gw K a_self (a_grammar 0) (a_grown 0) (a_joined 0) s_self, wd_Gr K a_grammar s_grammar, wd_Sy K a_p0 n_p0 s_p0] [] []) (kx76 : (Nat → Nat → Int32) → Option ((Int32) × (Nat → Nat → Int32))) (hkx76 : ∀ (s_self : Nat → Nat → Int32), kx76 s_self = some (r, f_self) → Gd p l e rm_Gw_readCodes s m args below meth c 0 0 (MQ below (sq D classes (tyK K) (some (.int r)) [wd_Gw K a_self (a_grammar 0) (a_grown 0) (a_joined 0) f_self, wd_Gr K a_grammar s_grammar, wd_Sy K a_p0 n_p0 s_p0] A) args s 0 0 A) D classes A 6 76 [wd_Gw K a_self (a_grammar 0) (a_grown 0) (a_joined 0) s_self, wd_Gr K a_grammar s_grammar, wd_Sy K a_p0 n_p0 s_p0] [] []) (kx92 : (Nat → Nat → Int32) → Int32 → Option ((Int32) × (Nat → Nat → Int32))) (hkx92 : ∀ (s_self : Nat → Nat → Int32) (v3 : Int32), kx92 s_self v3 = some (r, f_self) → Gd p l e rm_Gw_readCodes s m args below meth c 0 0 (MQ below (sq D classes (tyK K) (some (.int r)) [wd_Gw K a_self (a_grammar 0) (a_grown 0) (a_joined 0) f_self, wd_Gr K a_grammar s_grammar, wd_Sy K a_p0 n_p0 s_p0] A) args s 0 0 A) D classes A 6 92 [wd_Gw K a_self (a_grammar 0) (a_grown 0) (a_joined 0) s_self, wd_Gr K a_grammar s_grammar, wd_Sy K a_p0 n_p0 s_p0] [(0, .ref (a_self 0)), (1, .ref (a_p0 0)), (3, .int v3)] []) : ∀ (n : Nat) (s_self : Nat → Nat → Int32) (v3 v4 : Int32), l_Gw_readCodes_12 N n_p0 s_grammar s_p0 kx39 kx56 kx76 kx92 n s_self v3 v4 = some (r, f_self) → Gd p l e rm_Gw_readCodes s m args below meth c 0 0 (MQ below (sq D classes (tyK K) (some (.int r)) [wd_Gw K a_self (a_grammar 0) (a_grown 0) (a_joined 0) f_self, wd_Gr K a_grammar s_grammar, wd_Sy K a_p0 n_p0 s_p0] A) args s 0 0 A) D classes A 6 12 [wd_Gw K a_self (a_grammar 0) (a_grown 0) (a_joined 0) s_self, wd_Gr K a_grammar s_grammar, wd_Sy K a_p0 n_p0 s_p0] [(0, .ref (a_self 0)), (1, .ref (a_p0 0)), (3, .int v3), (4, .int v4)] [] := by
  intro n
  induction n with
  | zero => intro s_self v3 v4 h; have h : (none : Option ((Int32) × (Nat → Nat → Int32))) = some _ := h; cases h
  | succ n ih =>
    intro s_self v3 v4 h
    exact t_Gw_readCodes_12 a_self a_grammar a_grown a_joined a_p0 n_p0 X hr hlk N r f_self s_self s_grammar s_p0 v3 v4 (l_Gw_readCodes_12 N n_p0 s_grammar s_p0 kx39 kx56 kx76 kx92 n) ih kx39 hkx39 kx56 hkx56 kx76 hkx76 kx92 hkx92 h
def f_Gw_readCodes_0 (N : Nat) (n_p0 : Nat) (s_self s_grammar s_p0 : Nat → Nat → Int32) (v2 : Int32) : Option ((Int32) × (Nat → Nat → Int32)) :=
  ck 0 601 <| nm (st2 s_self 1 (Int32.toNatClampNeg 0) v2) fun s_self_2 =>
  l_Gw_readCodes_12 N n_p0 s_grammar s_p0 (fun s_self => f_Gw_readCodes_39 N n_p0 s_self s_grammar s_p0) (fun s_self => f_Gw_readCodes_56 N n_p0 s_self s_grammar s_p0) (fun s_self => f_Gw_readCodes_76 N n_p0 s_self s_grammar s_p0) (fun s_self v3 => f_Gw_readCodes_92 N n_p0 s_self s_grammar s_p0 v3) N s_self_2 1 0
set_option maxHeartbeats 4000000 in
set_option maxRecDepth 100000 in
theorem t_Gw_readCodes_0 {p : Program} {l : Launch} {e : Env} {s : State} {m : MethodId} {args : Array Value} {below : List Frame} {meth : Method} {c : Code} {A : Nat → Prop} {D : va_G} {K : Nat → ClassId} (a_self a_grammar a_grown a_joined a_p0 : Nat → Nat) (n_p0 : Nat) (X : gx p s m args c b_Gw_readCodes 6 R_Gw w_Gw_readCodes D classes (tyK K) A) (hr : meth.sig.returnType = some .int) (hlk : meth.locks = false) (N : Nat) (r : Int32) (f_self : Nat → Nat → Int32) (s_self s_grammar s_p0 : Nat → Nat → Int32) (v2 : Int32) (h : f_Gw_readCodes_0 N n_p0 s_self s_grammar s_p0 v2 = some (r, f_self)) : Gd p l e rm_Gw_readCodes s m args below meth c 0 0 (MQ below (sq D classes (tyK K) (some (.int r)) [wd_Gw K a_self (a_grammar 0) (a_grown 0) (a_joined 0) f_self, wd_Gr K a_grammar s_grammar, wd_Sy K a_p0 n_p0 s_p0] A) args s 0 0 A) D classes A 6 0 [wd_Gw K a_self (a_grammar 0) (a_grown 0) (a_joined 0) s_self, wd_Gr K a_grammar s_grammar, wd_Sy K a_p0 n_p0 s_p0] [(0, .ref (a_self 0)), (1, .ref (a_p0 0)), (2, .int v2)] [] := by
  unfold f_Gw_readCodes_0 at h
  refine gd_iconst X (v := 1) d_Gw_readCodes_0 (by decide) ?_
  refine gd_istore_n X (lv' := [(3, .int 1), (0, .ref (a_self 0)), (1, .ref (a_p0 0)), (2, .int v2)]) d_Gw_readCodes_1 rfl (by decide) rfl ?_
  refine gd_aload_n X d_Gw_readCodes_2 1 rfl ?_
  refine gd_get X (ci := 4) (C := R_Gw) (T := F_Gw) (N := 7) (v := .ref (a_self 1)) 0 0 rfl rfl rfl (in_Gw _) 1 (by decide) (List.mem_cons_of_mem _ fl_Gw_15) rfl rfl d_Gw_readCodes_3 ?_
  refine gd_iconst X (v := 0) d_Gw_readCodes_6 (by decide) ?_
  refine gd_iload_n X d_Gw_readCodes_7 3 rfl ?_
  obtain ⟨hi_1, h⟩ := ck_e h
  obtain ⟨s_self_2, es_self_2, h⟩ := nm_e' h
  refine gd_iast X (w' := [wd_Gw K a_self (a_grammar 0) (a_grown 0) (a_joined 0) s_self_2, wd_Gr K a_grammar s_grammar, wd_Sy K a_p0 n_p0 s_p0]) 0 1 0 rfl rfl rfl hi_1 d_Gw_readCodes_8 (by rw [es_self_2]; rfl) ?_
  refine gd_iconst X (v := 0) d_Gw_readCodes_9 (by decide) ?_
  refine gd_istore X (lv' := [(4, .int 0), (3, .int 1), (0, .ref (a_self 0)), (1, .ref (a_p0 0)), (2, .int v2)]) d_Gw_readCodes_10 (by decide) rfl ?_
  refine gd_loc (lv' := [(0, .ref (a_self 0)), (1, .ref (a_p0 0)), (3, .int 1), (4, .int 0)]) [2, 3, 1, 0] rfl ?_
  exact tl_Gw_readCodes_12 a_self a_grammar a_grown a_joined a_p0 n_p0 X hr hlk N r f_self s_grammar s_p0 (fun s_self => f_Gw_readCodes_39 N n_p0 s_self s_grammar s_p0) (fun s_self h => t_Gw_readCodes_39 a_self a_grammar a_grown a_joined a_p0 n_p0 X hr hlk N r f_self s_self s_grammar s_p0 h) (fun s_self => f_Gw_readCodes_56 N n_p0 s_self s_grammar s_p0) (fun s_self h => t_Gw_readCodes_56 a_self a_grammar a_grown a_joined a_p0 n_p0 X hr hlk N r f_self s_self s_grammar s_p0 h) (fun s_self => f_Gw_readCodes_76 N n_p0 s_self s_grammar s_p0) (fun s_self h => t_Gw_readCodes_76 a_self a_grammar a_grown a_joined a_p0 n_p0 X hr hlk N r f_self s_self s_grammar s_p0 h) (fun s_self v3 => f_Gw_readCodes_92 N n_p0 s_self s_grammar s_p0 v3) (fun s_self v3 h => t_Gw_readCodes_92 a_self a_grammar a_grown a_joined a_p0 n_p0 X hr hlk N r f_self s_self s_grammar s_p0 v3 h) N s_self_2 1 0 h
def m_Gw_readCodes (N : Nat) (n_p0 : Nat) (s_self s_grammar s_p0 : Nat → Nat → Int32) (v2 : Int32) : Option ((Int32) × (Nat → Nat → Int32)) := f_Gw_readCodes_0 N n_p0 s_self s_grammar s_p0 v2
set_option maxHeartbeats 4000000 in
set_option maxRecDepth 100000 in
theorem c_Gw_readCodes (l : Launch) (D : va_G) (K : Nat → ClassId) (a_self a_grammar a_grown a_joined a_p0 : Nat → Nat) (n_p0 : Nat) (N : Nat) (s_self s_grammar s_p0 : Nat → Nat → Int32) (v2 : Int32) (r : Int32) (f_self : Nat → Nat → Int32) (h : m_Gw_readCodes N n_p0 s_self s_grammar s_p0 v2 = some (r, f_self)) : SMet l y_Gw_readCodes w_Gw_readCodes rm_Gw_readCodes D classes (tyK K) [.ref (a_self 0), .ref (a_p0 0), .int v2] (some (.int r)) [wd_Gw K a_self (a_grammar 0) (a_grown 0) (a_joined 0) s_self, wd_Gr K a_grammar s_grammar, wd_Sy K a_p0 n_p0 s_p0] [wd_Gw K a_self (a_grammar 0) (a_grown 0) (a_joined 0) f_self, wd_Gr K a_grammar s_grammar, wd_Sy K a_p0 n_p0 s_p0] := by
  refine sm_of R_Gw (by decide) rfl rfl (Nat.le_of_ble_eq_true rfl) ?_
  intro p e s m below meth c A X hr hlk
  refine gd_loc (lv' := [(0, .ref (a_self 0)), (1, .ref (a_p0 0)), (2, .int v2)]) [0, 1, 2] rfl ?_
  exact t_Gw_readCodes_0 a_self a_grammar a_grown a_joined a_p0 n_p0 X hr hlk N r f_self s_self s_grammar s_p0 v2 h
abbrev b_Gw_judge : ByteArray := prog_4_method_2_code
def y_Gw_judge : MethodName := ⟨R_Gw, "judge", "(LRuleTrees$Symbols;I)I"⟩
def w_Gw_judge : List Cond := .code y_Gw_judge b_Gw_judge 4 (some .int) :: TB
theorem k_Gw_judge : Cond.code y_Gw_judge b_Gw_judge 4 (some .int) ∈ TB := tb_of 601 (by decide +kernel) (by decide +kernel)
theorem d_Gw_judge_0 : decode b_Gw_judge 0 = .ok (.aload_n 0, 1) := by decide +kernel
theorem d_Gw_judge_1 : decode b_Gw_judge 1 = .ok (.aload_n 1, 1) := by decide +kernel
theorem d_Gw_judge_2 : decode b_Gw_judge 2 = .ok (.iload_n 2, 1) := by decide +kernel
theorem d_Gw_judge_3 : decode b_Gw_judge 3 = .ok (.invokevirtual 38, 3) := by decide +kernel
theorem d_Gw_judge_6 : decode b_Gw_judge 6 = .ok (.istore_n 3, 1) := by decide +kernel
theorem d_Gw_judge_7 : decode b_Gw_judge 7 = .ok (.iload_n 3, 1) := by decide +kernel
theorem d_Gw_judge_8 : decode b_Gw_judge 8 = .ok (.ifCond .eq 5, 3) := by decide +kernel
theorem d_Gw_judge_11 : decode b_Gw_judge 11 = .ok (.iload_n 3, 1) := by decide +kernel
theorem d_Gw_judge_12 : decode b_Gw_judge 12 = .ok (.ireturn, 1) := by decide +kernel
theorem d_Gw_judge_13 : decode b_Gw_judge 13 = .ok (.aload_n 0, 1) := by decide +kernel
theorem d_Gw_judge_14 : decode b_Gw_judge 14 = .ok (.iconst (-1), 1) := by decide +kernel
theorem d_Gw_judge_15 : decode b_Gw_judge 15 = .ok (.putfield 34, 3) := by decide +kernel
theorem d_Gw_judge_18 : decode b_Gw_judge 18 = .ok (.aload_n 0, 1) := by decide +kernel
theorem d_Gw_judge_19 : decode b_Gw_judge 19 = .ok (.aload_n 1, 1) := by decide +kernel
theorem d_Gw_judge_20 : decode b_Gw_judge 20 = .ok (.invokevirtual 42, 3) := by decide +kernel
theorem d_Gw_judge_23 : decode b_Gw_judge 23 = .ok (.ifCond .eq 7, 3) := by decide +kernel
theorem d_Gw_judge_26 : decode b_Gw_judge 26 = .ok (.iconst 0, 1) := by decide +kernel
theorem d_Gw_judge_27 : decode b_Gw_judge 27 = .ok (.goto 4, 3) := by decide +kernel
theorem d_Gw_judge_30 : decode b_Gw_judge 30 = .ok (.iconst 5, 1) := by decide +kernel
theorem d_Gw_judge_31 : decode b_Gw_judge 31 = .ok (.ireturn, 1) := by decide +kernel
theorem ml_Gw_38 : Cond.methodLink R_Gw 38 ⟨"RuleTrees$Grower", "readCodes", "(LRuleTrees$Symbols;I)I"⟩ ∈ TB := tb_of 602 (by decide +kernel) (by decide +kernel)
theorem u_Gw_readCodes : (Cond.instanceMethod y_Gw_readCodes ∈ TB ∧ Cond.selects R_Gw y_Gw_readCodes y_Gw_readCodes ∈ TB) ∧ Cond.initialized R_Gw ∈ TB ∧ Cond.code y_Gw_readCodes b_Gw_readCodes 6 (some .int) ∈ TB := ⟨⟨(tb_of 604 (by decide +kernel) (by decide +kernel)), (tb_of 23 (by decide +kernel) (by decide +kernel))⟩, (tb_of 66 (by decide +kernel) (by decide +kernel)), k_Gw_readCodes⟩
theorem ml_Gw_42 : Cond.methodLink R_Gw 42 ⟨"RuleTrees$Grower", "layOut", "(LRuleTrees$Symbols;)Z"⟩ ∈ TB := tb_of 615 (by decide +kernel) (by decide +kernel)
theorem u_Gw_layOut : (Cond.instanceMethod y_Gw_layOut ∈ TB ∧ Cond.selects R_Gw y_Gw_layOut y_Gw_layOut ∈ TB) ∧ Cond.initialized R_Gw ∈ TB ∧ Cond.code y_Gw_layOut b_Gw_layOut 4 (some .boolean) ∈ TB := ⟨⟨(tb_of 617 (by decide +kernel) (by decide +kernel)), (tb_of 25 (by decide +kernel) (by decide +kernel))⟩, (tb_of 66 (by decide +kernel) (by decide +kernel)), k_Gw_layOut⟩
abbrev rm_Gw_judge : Room := { frames := 4, cells := 0, slots := 0, locals := 92 }
def f_Gw_judge_0 (N : Nat) (n_grown : Nat) (n_joined : Nat) (n_p0 : Nat) (s_self s_grammar s_grown s_joined s_p0 : Nat → Nat → Int32) (v2 : Int32) : Option ((Int32) × (Nat → Nat → Int32) × (Nat → Nat → Int32) × (Nat → Nat → Int32)) :=
  bd2 (m_Gw_readCodes N n_p0 s_self s_grammar s_p0 v2) fun r_1 s_self_2 =>
  if r_1 = 0 then
    nm (st2 s_self_2 0 6 (-1)) fun s_self_5 =>
    bd4 (m_Gw_layOut N n_grown n_joined n_p0 s_self_5 s_grammar s_grown s_joined s_p0) fun r_6 s_self_7 s_grown_8 s_joined_9 =>
    if r_6 = 0 then
      some ((5), s_self_7, s_grown_8, s_joined_9)
    else
      some ((0), s_self_7, s_grown_8, s_joined_9)
  else
    some ((r_1), s_self_2, s_grown, s_joined)
set_option maxHeartbeats 4000000 in
set_option maxRecDepth 100000 in
theorem t_Gw_judge_0 {p : Program} {l : Launch} {e : Env} {s : State} {m : MethodId} {args : Array Value} {below : List Frame} {meth : Method} {c : Code} {A : Nat → Prop} {D : va_G} {K : Nat → ClassId} (a_self a_grammar a_grown a_joined a_p0 : Nat → Nat) (n_grown : Nat) (n_joined : Nat) (n_p0 : Nat) (X : gx p s m args c b_Gw_judge 4 R_Gw w_Gw_judge D classes (tyK K) A) (hr : meth.sig.returnType = some .int) (hlk : meth.locks = false) (N : Nat) (r : Int32) (f_self f_grown f_joined : Nat → Nat → Int32) (s_self s_grammar s_grown s_joined s_p0 : Nat → Nat → Int32) (v2 : Int32) (h : f_Gw_judge_0 N n_grown n_joined n_p0 s_self s_grammar s_grown s_joined s_p0 v2 = some (r, f_self, f_grown, f_joined)) : Gd p l e rm_Gw_judge s m args below meth c 0 0 (MQ below (sq D classes (tyK K) (some (.int r)) [wd_Gw K a_self (a_grammar 0) (a_grown 0) (a_joined 0) f_self, wd_Gr K a_grammar s_grammar, wd_Sy K a_grown n_grown f_grown, wd_Sy K a_joined n_joined f_joined, wd_Sy K a_p0 n_p0 s_p0] A) args s 0 0 A) D classes A 4 0 [wd_Gw K a_self (a_grammar 0) (a_grown 0) (a_joined 0) s_self, wd_Gr K a_grammar s_grammar, wd_Sy K a_grown n_grown s_grown, wd_Sy K a_joined n_joined s_joined, wd_Sy K a_p0 n_p0 s_p0] [(0, .ref (a_self 0)), (1, .ref (a_p0 0)), (2, .int v2)] [] := by
  unfold f_Gw_judge_0 at h
  refine gd_aload_n X d_Gw_judge_0 0 rfl ?_
  refine gd_aload_n X d_Gw_judge_1 1 rfl ?_
  refine gd_iload_n X d_Gw_judge_2 2 rfl ?_
  obtain ⟨r_1, s_self_2, hc_3, h⟩ := bd2_e h
  refine gd_cI X (gd_V X (As := [.ref (a_p0 0), .int v2]) (rest := []) (c_Gw_readCodes l D K a_self a_grammar a_grown a_joined a_p0 n_p0 N s_self s_grammar s_p0 v2 r_1 s_self_2 hc_3) 2 (gi_V ml_Gw_38 u_Gw_readCodes) rfl ⟨rfl, rfl⟩ (by decide +kernel) ⟨by decide, by decide⟩ (ci := 4) rfl rfl rfl rfl rfl rfl (Nat.le_of_ble_eq_true rfl) ⟨Nat.zero_le _, Nat.zero_le _⟩ d_Gw_judge_3) (w2 := [wd_Gw K a_self (a_grammar 0) (a_grown 0) (a_joined 0) s_self_2, wd_Gr K a_grammar s_grammar, wd_Sy K a_grown n_grown s_grown, wd_Sy K a_joined n_joined s_joined, wd_Sy K a_p0 n_p0 s_p0]) [0, 1, 4] [2, 3] rfl rfl rfl rfl ⟨rfl, rfl⟩ rfl ?_
  refine gd_istore_n X (lv' := [(3, .int r_1), (0, .ref (a_self 0)), (1, .ref (a_p0 0)), (2, .int v2)]) d_Gw_judge_6 rfl (by decide) rfl ?_
  refine gd_iload_n X d_Gw_judge_7 0 rfl ?_
  refine gd_if_eq X (tgt := 13) d_Gw_judge_8 (by decide) (fun c_4 => ?_) (fun c_4 => ?_)
  · replace h := it_p c_4 h
    refine gd_aload_n X d_Gw_judge_13 1 rfl ?_
    refine gd_iconst X (v := (-1)) d_Gw_judge_14 (by decide) ?_
    obtain ⟨s_self_5, es_self_5, h⟩ := nm_e' h
    refine gd_put X (ci := 4) (C := R_Gw) (T := F_Gw) (N := 7) (ty := .int) (w' := [wd_Gw K a_self (a_grammar 0) (a_grown 0) (a_joined 0) s_self_5, wd_Gr K a_grammar s_grammar, wd_Sy K a_grown n_grown s_grown, wd_Sy K a_joined n_joined s_joined, wd_Sy K a_p0 n_p0 s_p0]) 0 0 rfl rfl rfl (in_Gw _) t_Gw t_Gw_ok n_Gw 6 (by decide) (List.mem_cons_of_mem _ fl_Gw_34) rfl rfl (by decide +kernel) rfl rfl (Nat.le_of_ble_eq_true rfl) d_Gw_judge_15 (by rw [es_self_5]; rfl) ?_
    refine gd_aload_n X d_Gw_judge_18 1 rfl ?_
    refine gd_aload_n X d_Gw_judge_19 2 rfl ?_
    obtain ⟨r_6, s_self_7, s_grown_8, s_joined_9, hc_10, h⟩ := bd4_e h
    refine gd_fI X (w1 := [wd_Gw K a_self (a_grammar 0) (a_grown 0) (a_joined 0) s_self_7, wd_Gr K a_grammar s_grammar, wd_Sy K a_grown n_grown s_grown_8, wd_Sy K a_joined n_joined s_joined_9, wd_Sy K a_p0 n_p0 s_p0]) (gd_V X (As := [.ref (a_p0 0)]) (rest := []) (c_Gw_layOut l D K a_self a_grammar a_grown a_joined a_p0 n_grown n_joined n_p0 N s_self_5 s_grammar s_grown s_joined s_p0 r_6 s_self_7 s_grown_8 s_joined_9 hc_10) 1 (gi_V ml_Gw_42 u_Gw_layOut) rfl ⟨rfl, rfl⟩ (by decide +kernel) ⟨by decide, by decide⟩ (ci := 4) rfl rfl rfl rfl rfl rfl (Nat.le_of_ble_eq_true rfl) ⟨Nat.zero_le _, Nat.zero_le _⟩ d_Gw_judge_20) ?_
    refine gd_if_eq X (tgt := 30) d_Gw_judge_23 (by decide) (fun c_11 => ?_) (fun c_11 => ?_)
    · replace h := it_p c_11 h
      refine gd_iconst X (v := 5) d_Gw_judge_30 (by decide) ?_
      cases h
      exact gd_iret X hr hlk d_Gw_judge_31
    · replace h := it_n c_11 h
      refine gd_iconst X (v := 0) d_Gw_judge_26 (by decide) ?_
      refine gd_goto X (tgt := 31) d_Gw_judge_27 (by decide) ?_
      cases h
      exact gd_iret X hr hlk d_Gw_judge_31
  · replace h := it_n c_4 h
    refine gd_iload_n X d_Gw_judge_11 0 rfl ?_
    cases h
    exact gd_iret X hr hlk d_Gw_judge_12
def m_Gw_judge (N : Nat) (n_grown : Nat) (n_joined : Nat) (n_p0 : Nat) (s_self s_grammar s_grown s_joined s_p0 : Nat → Nat → Int32) (v2 : Int32) : Option ((Int32) × (Nat → Nat → Int32) × (Nat → Nat → Int32) × (Nat → Nat → Int32)) := f_Gw_judge_0 N n_grown n_joined n_p0 s_self s_grammar s_grown s_joined s_p0 v2
set_option maxHeartbeats 4000000 in
set_option maxRecDepth 100000 in
theorem c_Gw_judge (l : Launch) (D : va_G) (K : Nat → ClassId) (a_self a_grammar a_grown a_joined a_p0 : Nat → Nat) (n_grown : Nat) (n_joined : Nat) (n_p0 : Nat) (N : Nat) (s_self s_grammar s_grown s_joined s_p0 : Nat → Nat → Int32) (v2 : Int32) (r : Int32) (f_self f_grown f_joined : Nat → Nat → Int32) (h : m_Gw_judge N n_grown n_joined n_p0 s_self s_grammar s_grown s_joined s_p0 v2 = some (r, f_self, f_grown, f_joined)) : SMet l y_Gw_judge w_Gw_judge rm_Gw_judge D classes (tyK K) [.ref (a_self 0), .ref (a_p0 0), .int v2] (some (.int r)) [wd_Gw K a_self (a_grammar 0) (a_grown 0) (a_joined 0) s_self, wd_Gr K a_grammar s_grammar, wd_Sy K a_grown n_grown s_grown, wd_Sy K a_joined n_joined s_joined, wd_Sy K a_p0 n_p0 s_p0] [wd_Gw K a_self (a_grammar 0) (a_grown 0) (a_joined 0) f_self, wd_Gr K a_grammar s_grammar, wd_Sy K a_grown n_grown f_grown, wd_Sy K a_joined n_joined f_joined, wd_Sy K a_p0 n_p0 s_p0] := by
  refine sm_of R_Gw (by decide) rfl rfl (Nat.le_of_ble_eq_true rfl) ?_
  intro p e s m below meth c A X hr hlk
  refine gd_loc (lv' := [(0, .ref (a_self 0)), (1, .ref (a_p0 0)), (2, .int v2)]) [0, 1, 2] rfl ?_
  exact t_Gw_judge_0 a_self a_grammar a_grown a_joined a_p0 n_grown n_joined n_p0 X hr hlk N r f_self f_grown f_joined s_self s_grammar s_grown s_joined s_p0 v2 h
abbrev b_Sr_lengthSoFar : ByteArray := prog_5_method_3_code
def y_Sr_lengthSoFar : MethodName := ⟨R_Sr, "lengthSoFar", "(I)I"⟩
def w_Sr_lengthSoFar : List Cond := .code y_Sr_lengthSoFar b_Sr_lengthSoFar 2 (some .int) :: TB
theorem k_Sr_lengthSoFar : Cond.code y_Sr_lengthSoFar b_Sr_lengthSoFar 2 (some .int) ∈ TB := tb_of 665 (by decide +kernel) (by decide +kernel)
theorem d_Sr_lengthSoFar_0 : decode b_Sr_lengthSoFar 0 = .ok (.iload_n 1, 1) := by decide +kernel
theorem d_Sr_lengthSoFar_1 : decode b_Sr_lengthSoFar 1 = .ok (.ifCond .lt 18, 3) := by decide +kernel
theorem d_Sr_lengthSoFar_4 : decode b_Sr_lengthSoFar 4 = .ok (.iload_n 1, 1) := by decide +kernel
theorem d_Sr_lengthSoFar_5 : decode b_Sr_lengthSoFar 5 = .ok (.bipush 6, 2) := by decide +kernel
theorem d_Sr_lengthSoFar_7 : decode b_Sr_lengthSoFar 7 = .ok (.if_icmp .ge 12, 3) := by decide +kernel
theorem d_Sr_lengthSoFar_10 : decode b_Sr_lengthSoFar 10 = .ok (.aload_n 0, 1) := by decide +kernel
theorem d_Sr_lengthSoFar_11 : decode b_Sr_lengthSoFar 11 = .ok (.getfield 15, 3) := by decide +kernel
theorem d_Sr_lengthSoFar_14 : decode b_Sr_lengthSoFar 14 = .ok (.iload_n 1, 1) := by decide +kernel
theorem d_Sr_lengthSoFar_15 : decode b_Sr_lengthSoFar 15 = .ok (.iaload, 1) := by decide +kernel
theorem d_Sr_lengthSoFar_16 : decode b_Sr_lengthSoFar 16 = .ok (.goto 4, 3) := by decide +kernel
theorem d_Sr_lengthSoFar_19 : decode b_Sr_lengthSoFar 19 = .ok (.iconst (-1), 1) := by decide +kernel
theorem d_Sr_lengthSoFar_20 : decode b_Sr_lengthSoFar 20 = .ok (.ireturn, 1) := by decide +kernel
theorem fl_Sr_15 : Cond.fieldLink R_Sr 15 "RuleTrees$ShortestRows" "lengths" "[I" ∈ TB := tb_of 253 (by decide +kernel) (by decide +kernel)
abbrev rm_Sr_lengthSoFar : Room := { frames := 0, cells := 0, slots := 0, locals := 0 }
def f_Sr_lengthSoFar_0 (s_self : Nat → Nat → Int32) (v1 : Int32) : Option ((Int32)) :=
  if v1 < 0 then
    some ((-1))
  else
    if 6 ≤ v1 then
      some ((-1))
    else
      ck v1 6 <|
      some (s_self 1 (Int32.toNatClampNeg v1))
set_option maxHeartbeats 4000000 in
set_option maxRecDepth 100000 in
theorem t_Sr_lengthSoFar_0 {p : Program} {l : Launch} {e : Env} {s : State} {m : MethodId} {args : Array Value} {below : List Frame} {meth : Method} {c : Code} {A : Nat → Prop} {D : va_G} {K : Nat → ClassId} (a_self a_grammar : Nat → Nat) (X : gx p s m args c b_Sr_lengthSoFar 2 R_Sr w_Sr_lengthSoFar D classes (tyK K) A) (hr : meth.sig.returnType = some .int) (hlk : meth.locks = false) (r : Int32) (s_self : Nat → Nat → Int32) (v1 : Int32) (h : f_Sr_lengthSoFar_0 s_self v1 = some r) : Gd p l e rm_Sr_lengthSoFar s m args below meth c 0 0 (MQ below (sq D classes (tyK K) (some (.int r)) [wd_Sr K a_self (a_grammar 0) s_self] A) args s 0 0 A) D classes A 2 0 [wd_Sr K a_self (a_grammar 0) s_self] [(0, .ref (a_self 0)), (1, .int v1)] [] := by
  unfold f_Sr_lengthSoFar_0 at h
  refine gd_iload_n X d_Sr_lengthSoFar_0 1 rfl ?_
  refine gd_if_lt X (tgt := 19) d_Sr_lengthSoFar_1 (by decide) (fun c_1 => ?_) (fun c_1 => ?_)
  · replace h := it_p c_1 h
    refine gd_iconst X (v := (-1)) d_Sr_lengthSoFar_19 (by decide) ?_
    cases h
    exact gd_iret X hr hlk d_Sr_lengthSoFar_20
  · replace h := it_n c_1 h
    refine gd_iload_n X d_Sr_lengthSoFar_4 1 rfl ?_
    refine gd_bipush X (v := 6) d_Sr_lengthSoFar_5 (by decide) ?_
    refine gd_icmp_ge X (tgt := 19) d_Sr_lengthSoFar_7 (by decide) (fun c_2 => ?_) (fun c_2 => ?_)
    · replace h := it_p c_2 h
      refine gd_iconst X (v := (-1)) d_Sr_lengthSoFar_19 (by decide) ?_
      cases h
      exact gd_iret X hr hlk d_Sr_lengthSoFar_20
    · replace h := it_n c_2 h
      refine gd_aload_n X d_Sr_lengthSoFar_10 0 rfl ?_
      refine gd_get X (ci := 5) (C := R_Sr) (T := F_Sr) (N := 2) (v := .ref (a_self 1)) 0 0 rfl rfl rfl (in_Sr _) 1 (by decide) (List.mem_cons_of_mem _ fl_Sr_15) rfl rfl d_Sr_lengthSoFar_11 ?_
      refine gd_iload_n X d_Sr_lengthSoFar_14 1 rfl ?_
      obtain ⟨hi_3, h⟩ := ck_e h
      refine gd_iald X 0 1 0 rfl rfl rfl hi_3 d_Sr_lengthSoFar_15 ?_
      refine gd_goto X (tgt := 20) d_Sr_lengthSoFar_16 (by decide) ?_
      cases h
      exact gd_iret X hr hlk d_Sr_lengthSoFar_20
def m_Sr_lengthSoFar (s_self : Nat → Nat → Int32) (v1 : Int32) : Option ((Int32)) := f_Sr_lengthSoFar_0 s_self v1
set_option maxHeartbeats 4000000 in
set_option maxRecDepth 100000 in
theorem c_Sr_lengthSoFar (l : Launch) (D : va_G) (K : Nat → ClassId) (a_self a_grammar : Nat → Nat) (s_self : Nat → Nat → Int32) (v1 : Int32) (r : Int32) (h : m_Sr_lengthSoFar s_self v1 = some r) : SMet l y_Sr_lengthSoFar w_Sr_lengthSoFar rm_Sr_lengthSoFar D classes (tyK K) [.ref (a_self 0), .int v1] (some (.int r)) [wd_Sr K a_self (a_grammar 0) s_self] [wd_Sr K a_self (a_grammar 0) s_self] := by
  refine sm_of R_Sr (by decide) rfl rfl (Nat.le_of_ble_eq_true rfl) ?_
  intro p e s m below meth c A X hr hlk
  refine gd_loc (lv' := [(0, .ref (a_self 0)), (1, .int v1)]) [0, 1] rfl ?_
  exact t_Sr_lengthSoFar_0 a_self a_grammar X hr hlk r s_self v1 h
