abbrev b_Gw_joinParts : ByteArray := prog_4_method_6_code
def y_Gw_joinParts : MethodName := ⟨R_Gw, "joinParts", "(I)Z"⟩
def w_Gw_joinParts : List Cond := .code y_Gw_joinParts b_Gw_joinParts 6 (some .boolean) :: TB
theorem k_Gw_joinParts : Cond.code y_Gw_joinParts b_Gw_joinParts 6 (some .boolean) ∈ TB := tb_of 624 (by decide +kernel) (by decide +kernel)
theorem d_Gw_joinParts_0 : decode b_Gw_joinParts 0 = .ok (.aload_n 0, 1) := by decide +kernel
theorem d_Gw_joinParts_1 : decode b_Gw_joinParts 1 = .ok (.getfield 9, 3) := by decide +kernel
theorem d_Gw_joinParts_4 : decode b_Gw_joinParts 4 = .ok (.iload_n 1, 1) := by decide +kernel
theorem d_Gw_joinParts_5 : decode b_Gw_joinParts 5 = .ok (.invokevirtual 66, 3) := by decide +kernel
theorem d_Gw_joinParts_8 : decode b_Gw_joinParts 8 = .ok (.istore_n 2, 1) := by decide +kernel
theorem d_Gw_joinParts_9 : decode b_Gw_joinParts 9 = .ok (.iload_n 2, 1) := by decide +kernel
theorem d_Gw_joinParts_10 : decode b_Gw_joinParts 10 = .ok (.aload_n 0, 1) := by decide +kernel
theorem d_Gw_joinParts_11 : decode b_Gw_joinParts 11 = .ok (.getfield 76, 3) := by decide +kernel
theorem d_Gw_joinParts_14 : decode b_Gw_joinParts 14 = .ok (.if_icmp .le 5, 3) := by decide +kernel
theorem d_Gw_joinParts_17 : decode b_Gw_joinParts 17 = .ok (.iconst 0, 1) := by decide +kernel
theorem d_Gw_joinParts_18 : decode b_Gw_joinParts 18 = .ok (.ireturn, 1) := by decide +kernel
theorem d_Gw_joinParts_19 : decode b_Gw_joinParts 19 = .ok (.iconst 0, 1) := by decide +kernel
theorem d_Gw_joinParts_20 : decode b_Gw_joinParts 20 = .ok (.istore_n 3, 1) := by decide +kernel
theorem d_Gw_joinParts_21 : decode b_Gw_joinParts 21 = .ok (.iload_n 3, 1) := by decide +kernel
theorem d_Gw_joinParts_22 : decode b_Gw_joinParts 22 = .ok (.aload_n 0, 1) := by decide +kernel
theorem d_Gw_joinParts_23 : decode b_Gw_joinParts 23 = .ok (.getfield 9, 3) := by decide +kernel
theorem d_Gw_joinParts_26 : decode b_Gw_joinParts 26 = .ok (.iload_n 1, 1) := by decide +kernel
theorem d_Gw_joinParts_27 : decode b_Gw_joinParts 27 = .ok (.invokevirtual 89, 3) := by decide +kernel
theorem d_Gw_joinParts_30 : decode b_Gw_joinParts 30 = .ok (.if_icmp .ge 67, 3) := by decide +kernel
theorem d_Gw_joinParts_33 : decode b_Gw_joinParts 33 = .ok (.aload_n 0, 1) := by decide +kernel
theorem d_Gw_joinParts_34 : decode b_Gw_joinParts 34 = .ok (.getfield 9, 3) := by decide +kernel
theorem d_Gw_joinParts_37 : decode b_Gw_joinParts 37 = .ok (.iload_n 1, 1) := by decide +kernel
theorem d_Gw_joinParts_38 : decode b_Gw_joinParts 38 = .ok (.iload_n 3, 1) := by decide +kernel
theorem d_Gw_joinParts_39 : decode b_Gw_joinParts 39 = .ok (.invokevirtual 92, 3) := by decide +kernel
theorem d_Gw_joinParts_42 : decode b_Gw_joinParts 42 = .ok (.istore 4, 2) := by decide +kernel
theorem d_Gw_joinParts_44 : decode b_Gw_joinParts 44 = .ok (.iload 4, 2) := by decide +kernel
theorem d_Gw_joinParts_46 : decode b_Gw_joinParts 46 = .ok (.iconst (-1), 1) := by decide +kernel
theorem d_Gw_joinParts_47 : decode b_Gw_joinParts 47 = .ok (.if_icmp .ne 22, 3) := by decide +kernel
theorem d_Gw_joinParts_50 : decode b_Gw_joinParts 50 = .ok (.aload_n 0, 1) := by decide +kernel
theorem d_Gw_joinParts_51 : decode b_Gw_joinParts 51 = .ok (.getfield 31, 3) := by decide +kernel
theorem d_Gw_joinParts_54 : decode b_Gw_joinParts 54 = .ok (.aload_n 0, 1) := by decide +kernel
theorem d_Gw_joinParts_55 : decode b_Gw_joinParts 55 = .ok (.getfield 9, 3) := by decide +kernel
theorem d_Gw_joinParts_58 : decode b_Gw_joinParts 58 = .ok (.iload_n 1, 1) := by decide +kernel
theorem d_Gw_joinParts_59 : decode b_Gw_joinParts 59 = .ok (.iload_n 3, 1) := by decide +kernel
theorem d_Gw_joinParts_60 : decode b_Gw_joinParts 60 = .ok (.invokevirtual 95, 3) := by decide +kernel
theorem d_Gw_joinParts_63 : decode b_Gw_joinParts 63 = .ok (.invokevirtual 79, 3) := by decide +kernel
theorem d_Gw_joinParts_66 : decode b_Gw_joinParts 66 = .ok (.goto 16, 3) := by decide +kernel
theorem d_Gw_joinParts_69 : decode b_Gw_joinParts 69 = .ok (.aload_n 0, 1) := by decide +kernel
theorem d_Gw_joinParts_70 : decode b_Gw_joinParts 70 = .ok (.aload_n 0, 1) := by decide +kernel
theorem d_Gw_joinParts_71 : decode b_Gw_joinParts 71 = .ok (.getfield 76, 3) := by decide +kernel
theorem d_Gw_joinParts_74 : decode b_Gw_joinParts 74 = .ok (.iconst 1, 1) := by decide +kernel
theorem d_Gw_joinParts_75 : decode b_Gw_joinParts 75 = .ok (.isub, 1) := by decide +kernel
theorem d_Gw_joinParts_76 : decode b_Gw_joinParts 76 = .ok (.iload 4, 2) := by decide +kernel
theorem d_Gw_joinParts_78 : decode b_Gw_joinParts 78 = .ok (.isub, 1) := by decide +kernel
theorem d_Gw_joinParts_79 : decode b_Gw_joinParts 79 = .ok (.invokevirtual 98, 3) := by decide +kernel
theorem d_Gw_joinParts_82 : decode b_Gw_joinParts 82 = .ok (.istore 5, 2) := by decide +kernel
theorem d_Gw_joinParts_84 : decode b_Gw_joinParts 84 = .ok (.iload 5, 2) := by decide +kernel
theorem d_Gw_joinParts_86 : decode b_Gw_joinParts 86 = .ok (.ifCond .ne 5, 3) := by decide +kernel
theorem d_Gw_joinParts_89 : decode b_Gw_joinParts 89 = .ok (.iconst 0, 1) := by decide +kernel
theorem d_Gw_joinParts_90 : decode b_Gw_joinParts 90 = .ok (.ireturn, 1) := by decide +kernel
theorem d_Gw_joinParts_91 : decode b_Gw_joinParts 91 = .ok (.iinc 3 1, 3) := by decide +kernel
theorem d_Gw_joinParts_94 : decode b_Gw_joinParts 94 = .ok (.goto (-73), 3) := by decide +kernel
theorem d_Gw_joinParts_97 : decode b_Gw_joinParts 97 = .ok (.iload_n 2, 1) := by decide +kernel
theorem d_Gw_joinParts_98 : decode b_Gw_joinParts 98 = .ok (.ifCond .le 29, 3) := by decide +kernel
theorem d_Gw_joinParts_101 : decode b_Gw_joinParts 101 = .ok (.aload_n 0, 1) := by decide +kernel
theorem d_Gw_joinParts_102 : decode b_Gw_joinParts 102 = .ok (.dup, 1) := by decide +kernel
theorem d_Gw_joinParts_103 : decode b_Gw_joinParts 103 = .ok (.getfield 76, 3) := by decide +kernel
theorem d_Gw_joinParts_106 : decode b_Gw_joinParts 106 = .ok (.iload_n 2, 1) := by decide +kernel
theorem d_Gw_joinParts_107 : decode b_Gw_joinParts 107 = .ok (.isub, 1) := by decide +kernel
theorem d_Gw_joinParts_108 : decode b_Gw_joinParts 108 = .ok (.putfield 76, 3) := by decide +kernel
theorem d_Gw_joinParts_111 : decode b_Gw_joinParts 111 = .ok (.aload_n 0, 1) := by decide +kernel
theorem d_Gw_joinParts_112 : decode b_Gw_joinParts 112 = .ok (.getfield 24, 3) := by decide +kernel
theorem d_Gw_joinParts_115 : decode b_Gw_joinParts 115 = .ok (.aload_n 0, 1) := by decide +kernel
theorem d_Gw_joinParts_116 : decode b_Gw_joinParts 116 = .ok (.getfield 28, 3) := by decide +kernel
theorem d_Gw_joinParts_119 : decode b_Gw_joinParts 119 = .ok (.aload_n 0, 1) := by decide +kernel
theorem d_Gw_joinParts_120 : decode b_Gw_joinParts 120 = .ok (.getfield 76, 3) := by decide +kernel
theorem d_Gw_joinParts_123 : decode b_Gw_joinParts 123 = .ok (.iaload, 1) := by decide +kernel
theorem d_Gw_joinParts_124 : decode b_Gw_joinParts 124 = .ok (.putfield 46, 3) := by decide +kernel
theorem d_Gw_joinParts_127 : decode b_Gw_joinParts 127 = .ok (.iconst 1, 1) := by decide +kernel
theorem d_Gw_joinParts_128 : decode b_Gw_joinParts 128 = .ok (.ireturn, 1) := by decide +kernel
theorem fl_Gw_9 : Cond.fieldLink R_Gw 9 "RuleTrees$Grower" "grammar" "LRuleTrees$Grammar;" ∈ TB := tb_of 222 (by decide +kernel) (by decide +kernel)
theorem ml_Gw_89 : Cond.methodLink R_Gw 89 ⟨"RuleTrees$Grammar", "lengthOfRule", "(I)I"⟩ ∈ TB := tb_of 625 (by decide +kernel) (by decide +kernel)
theorem ml_Gw_92 : Cond.methodLink R_Gw 92 ⟨"RuleTrees$Grammar", "slotAt", "(II)I"⟩ ∈ TB := tb_of 626 (by decide +kernel) (by decide +kernel)
theorem ml_Gw_98 : Cond.methodLink R_Gw 98 ⟨"RuleTrees$Grower", "joinWaiting", "(I)Z"⟩ ∈ TB := tb_of 628 (by decide +kernel) (by decide +kernel)
theorem u_Gw_joinWaiting : (Cond.instanceMethod y_Gw_joinWaiting ∈ TB ∧ Cond.selects R_Gw y_Gw_joinWaiting y_Gw_joinWaiting ∈ TB) ∧ Cond.initialized R_Gw ∈ TB ∧ Cond.code y_Gw_joinWaiting b_Gw_joinWaiting 4 (some .boolean) ∈ TB := ⟨⟨(tb_of 630 (by decide +kernel) (by decide +kernel)), (tb_of 27 (by decide +kernel) (by decide +kernel))⟩, (tb_of 66 (by decide +kernel) (by decide +kernel)), k_Gw_joinWaiting⟩
theorem ml_Gw_95 : Cond.methodLink R_Gw 95 ⟨"RuleTrees$Grammar", "symbolAt", "(II)I"⟩ ∈ TB := tb_of 627 (by decide +kernel) (by decide +kernel)
theorem ml_Gw_66 : Cond.methodLink R_Gw 66 ⟨"RuleTrees$Grammar", "slotsOfCode", "(I)I"⟩ ∈ TB := tb_of 613 (by decide +kernel) (by decide +kernel)
abbrev rm_Gw_joinParts : Room := { frames := 2, cells := 0, slots := 0, locals := 44 }
def f_Gw_joinParts_21 (N : Nat) (n_grown : Nat) (n_joined : Nat) (kb : (Nat → Nat → Int32) → Int32 → Option ((Int32) × (Nat → Nat → Int32) × (Nat → Nat → Int32) × (Nat → Nat → Int32))) (kx89 : (Nat → Nat → Int32) → Option ((Int32) × (Nat → Nat → Int32) × (Nat → Nat → Int32) × (Nat → Nat → Int32))) (kx97 : (Nat → Nat → Int32) → Option ((Int32) × (Nat → Nat → Int32) × (Nat → Nat → Int32) × (Nat → Nat → Int32))) (s_self s_grammar s_grown s_joined : Nat → Nat → Int32) (v1 v2 v3 : Int32) : Option ((Int32) × (Nat → Nat → Int32) × (Nat → Nat → Int32) × (Nat → Nat → Int32)) :=
  bd1 (m_Gr_lengthOfRule s_grammar v1) fun r_1 =>
  if r_1 ≤ v3 then
    kx97 s_joined
  else
    bd1 (m_Gr_slotAt s_grammar v1 v3) fun r_4 =>
    if r_4 = (-1) then
      bd1 (m_Gr_symbolAt s_grammar v1 v3) fun r_12 =>
      bd2 (m_Sy_append n_joined s_joined r_12) fun r_14 s_joined_15 =>
      if r_14 = 0 then
        kx89 s_joined_15
      else
        nm (v3 + 1) fun v3_18 =>
        kb s_joined_15 v3_18
    else
      bd2 (m_Gw_joinWaiting N n_grown n_joined s_self s_grown s_joined (((s_self 0 4) - 1) - r_4)) fun r_7 s_joined_8 =>
      if r_7 = 0 then
        kx89 s_joined_8
      else
        nm (v3 + 1) fun v3_11 =>
        kb s_joined_8 v3_11
set_option maxHeartbeats 4000000 in
set_option maxRecDepth 100000 in
theorem t_Gw_joinParts_21 {p : Program} {l : Launch} {e : Env} {s : State} {m : MethodId} {args : Array Value} {below : List Frame} {meth : Method} {c : Code} {A : Nat → Prop} {D : va_G} {K : Nat → ClassId} (a_self a_grammar a_grown a_joined : Nat → Nat) (n_grown : Nat) (n_joined : Nat) (X : gx p s m args c b_Gw_joinParts 6 R_Gw w_Gw_joinParts D classes (tyK K) A) (hr : meth.sig.returnType = some .boolean) (hlk : meth.locks = false) (N : Nat) (r : Int32) (f_self f_grown f_joined : Nat → Nat → Int32) (s_self s_grammar s_grown s_joined : Nat → Nat → Int32) (v1 v2 v3 : Int32) (kb : (Nat → Nat → Int32) → Int32 → Option ((Int32) × (Nat → Nat → Int32) × (Nat → Nat → Int32) × (Nat → Nat → Int32))) (hkb : ∀ (s_joined : Nat → Nat → Int32) (v3 : Int32), kb s_joined v3 = some (r, f_self, f_grown, f_joined) → Gd p l e rm_Gw_joinParts s m args below meth c 0 0 (MQ below (sq D classes (tyK K) (some (.int r)) [wd_Gw K a_self (a_grammar 0) (a_grown 0) (a_joined 0) f_self, wd_Gr K a_grammar s_grammar, wd_Sy K a_grown n_grown f_grown, wd_Sy K a_joined n_joined f_joined] A) args s 0 0 A) D classes A 6 21 [wd_Gw K a_self (a_grammar 0) (a_grown 0) (a_joined 0) s_self, wd_Gr K a_grammar s_grammar, wd_Sy K a_grown n_grown s_grown, wd_Sy K a_joined n_joined s_joined] [(0, .ref (a_self 0)), (1, .int v1), (2, .int v2), (3, .int v3)] []) (kx89 : (Nat → Nat → Int32) → Option ((Int32) × (Nat → Nat → Int32) × (Nat → Nat → Int32) × (Nat → Nat → Int32))) (hkx89 : ∀ (s_joined : Nat → Nat → Int32), kx89 s_joined = some (r, f_self, f_grown, f_joined) → Gd p l e rm_Gw_joinParts s m args below meth c 0 0 (MQ below (sq D classes (tyK K) (some (.int r)) [wd_Gw K a_self (a_grammar 0) (a_grown 0) (a_joined 0) f_self, wd_Gr K a_grammar s_grammar, wd_Sy K a_grown n_grown f_grown, wd_Sy K a_joined n_joined f_joined] A) args s 0 0 A) D classes A 6 89 [wd_Gw K a_self (a_grammar 0) (a_grown 0) (a_joined 0) s_self, wd_Gr K a_grammar s_grammar, wd_Sy K a_grown n_grown s_grown, wd_Sy K a_joined n_joined s_joined] [] []) (kx97 : (Nat → Nat → Int32) → Option ((Int32) × (Nat → Nat → Int32) × (Nat → Nat → Int32) × (Nat → Nat → Int32))) (hkx97 : ∀ (s_joined : Nat → Nat → Int32), kx97 s_joined = some (r, f_self, f_grown, f_joined) → Gd p l e rm_Gw_joinParts s m args below meth c 0 0 (MQ below (sq D classes (tyK K) (some (.int r)) [wd_Gw K a_self (a_grammar 0) (a_grown 0) (a_joined 0) f_self, wd_Gr K a_grammar s_grammar, wd_Sy K a_grown n_grown f_grown, wd_Sy K a_joined n_joined f_joined] A) args s 0 0 A) D classes A 6 97 [wd_Gw K a_self (a_grammar 0) (a_grown 0) (a_joined 0) s_self, wd_Gr K a_grammar s_grammar, wd_Sy K a_grown n_grown s_grown, wd_Sy K a_joined n_joined s_joined] [(0, .ref (a_self 0)), (2, .int v2)] []) (h : f_Gw_joinParts_21 N n_grown n_joined kb kx89 kx97 s_self s_grammar s_grown s_joined v1 v2 v3 = some (r, f_self, f_grown, f_joined)) : Gd p l e rm_Gw_joinParts s m args below meth c 0 0 (MQ below (sq D classes (tyK K) (some (.int r)) [wd_Gw K a_self (a_grammar 0) (a_grown 0) (a_joined 0) f_self, wd_Gr K a_grammar s_grammar, wd_Sy K a_grown n_grown f_grown, wd_Sy K a_joined n_joined f_joined] A) args s 0 0 A) D classes A 6 21 [wd_Gw K a_self (a_grammar 0) (a_grown 0) (a_joined 0) s_self, wd_Gr K a_grammar s_grammar, wd_Sy K a_grown n_grown s_grown, wd_Sy K a_joined n_joined s_joined] [(0, .ref (a_self 0)), (1, .int v1), (2, .int v2), (3, .int v3)] [] := by
  unfold f_Gw_joinParts_21 at h
  refine gd_iload_n X d_Gw_joinParts_21 3 rfl ?_
  refine gd_aload_n X d_Gw_joinParts_22 0 rfl ?_
  refine gd_get X (ci := 4) (C := R_Gw) (T := F_Gw) (N := 7) (v := .ref (a_grammar 0)) 0 0 rfl rfl rfl (in_Gw _) 0 (by decide) (List.mem_cons_of_mem _ fl_Gw_9) rfl rfl d_Gw_joinParts_23 ?_
  refine gd_iload_n X d_Gw_joinParts_26 1 rfl ?_
  obtain ⟨r_1, hc_2, h⟩ := bd1_e h
  refine gd_pI X (gd_V X (As := [.int v1]) (rest := [.int v3]) (c_Gr_lengthOfRule l D K a_grammar s_grammar v1 r_1 hc_2) 1 (gi_V ml_Gw_89 u_Gr_lengthOfRule) rfl ⟨rfl, rfl⟩ (by decide +kernel) ⟨by decide, by decide⟩ (ci := 1) rfl rfl rfl rfl rfl rfl (Nat.le_of_ble_eq_true rfl) ⟨Nat.zero_le _, Nat.zero_le _⟩ d_Gw_joinParts_27) [1] rfl rfl ?_
  refine gd_icmp_ge X (tgt := 97) d_Gw_joinParts_30 (by decide) (fun c_3 => ?_) (fun c_3 => ?_)
  · replace h := it_p c_3 h
    refine gd_loc (lv' := [(0, .ref (a_self 0)), (2, .int v2)]) [0, 2] rfl ?_
    exact hkx97 s_joined h
  · replace h := it_n c_3 h
    refine gd_aload_n X d_Gw_joinParts_33 0 rfl ?_
    refine gd_get X (ci := 4) (C := R_Gw) (T := F_Gw) (N := 7) (v := .ref (a_grammar 0)) 0 0 rfl rfl rfl (in_Gw _) 0 (by decide) (List.mem_cons_of_mem _ fl_Gw_9) rfl rfl d_Gw_joinParts_34 ?_
    refine gd_iload_n X d_Gw_joinParts_37 1 rfl ?_
    refine gd_iload_n X d_Gw_joinParts_38 3 rfl ?_
    obtain ⟨r_4, hc_5, h⟩ := bd1_e h
    refine gd_pI X (gd_V X (As := [.int v1, .int v3]) (rest := []) (c_Gr_slotAt l D K a_grammar s_grammar v1 v3 r_4 hc_5) 2 (gi_V ml_Gw_92 u_Gr_slotAt) rfl ⟨rfl, rfl⟩ (by decide +kernel) ⟨by decide, by decide⟩ (ci := 1) rfl rfl rfl rfl rfl rfl (Nat.le_of_ble_eq_true rfl) ⟨Nat.zero_le _, Nat.zero_le _⟩ d_Gw_joinParts_39) [1] rfl rfl ?_
    refine gd_istore X (lv' := [(4, .int r_4), (0, .ref (a_self 0)), (1, .int v1), (2, .int v2), (3, .int v3)]) d_Gw_joinParts_42 (by decide) rfl ?_
    refine gd_iload X d_Gw_joinParts_44 0 rfl ?_
    refine gd_iconst X (v := (-1)) d_Gw_joinParts_46 (by decide) ?_
    refine gd_icmp_ne X (tgt := 69) d_Gw_joinParts_47 (by decide) (fun c_6 => ?_) (fun c_6 => ?_)
    · replace h := it_n c_6 h
      refine gd_aload_n X d_Gw_joinParts_69 1 rfl ?_
      refine gd_aload_n X d_Gw_joinParts_70 1 rfl ?_
      refine gd_get X (ci := 4) (C := R_Gw) (T := F_Gw) (N := 7) (v := .int (s_self 0 4)) 0 0 rfl rfl rfl (in_Gw _) 4 (by decide) (List.mem_cons_of_mem _ fl_Gw_76) rfl rfl d_Gw_joinParts_71 ?_
      refine gd_iconst X (v := 1) d_Gw_joinParts_74 (by decide) ?_
      refine gd_isub X d_Gw_joinParts_75 ?_
      refine gd_iload X d_Gw_joinParts_76 0 rfl ?_
      refine gd_isub X d_Gw_joinParts_78 ?_
      obtain ⟨r_7, s_joined_8, hc_9, h⟩ := bd2_e h
      refine gd_cI X (gd_V X (As := [.int (((s_self 0 4) - 1) - r_4)]) (rest := []) (c_Gw_joinWaiting l D K a_self a_grammar a_grown a_joined n_grown n_joined N s_self s_grown s_joined (((s_self 0 4) - 1) - r_4) r_7 s_joined_8 hc_9) 1 (gi_V ml_Gw_98 u_Gw_joinWaiting) rfl ⟨rfl, rfl⟩ (by decide +kernel) ⟨by decide, by decide⟩ (ci := 4) rfl rfl rfl rfl rfl rfl (Nat.le_of_ble_eq_true rfl) ⟨Nat.zero_le _, Nat.zero_le _⟩ d_Gw_joinParts_79) (w2 := [wd_Gw K a_self (a_grammar 0) (a_grown 0) (a_joined 0) s_self, wd_Gr K a_grammar s_grammar, wd_Sy K a_grown n_grown s_grown, wd_Sy K a_joined n_joined s_joined_8]) [0, 2, 3] [1] rfl rfl rfl rfl ⟨rfl, rfl⟩ rfl ?_
      refine gd_istore X (lv' := [(5, .int r_7), (4, .int r_4), (0, .ref (a_self 0)), (1, .int v1), (2, .int v2), (3, .int v3)]) d_Gw_joinParts_82 (by decide) rfl ?_
      refine gd_iload X d_Gw_joinParts_84 0 rfl ?_
      refine gd_if_ne X (tgt := 91) d_Gw_joinParts_86 (by decide) (fun c_10 => ?_) (fun c_10 => ?_)
      · replace h := it_n c_10 h
        obtain ⟨v3_11, ev3_11, h⟩ := nm_e' h
        refine gd_iinc X (v := v3_11) (lv' := [(3, .int v3_11), (5, .int r_7), (4, .int r_4), (0, .ref (a_self 0)), (1, .int v1), (2, .int v2)]) d_Gw_joinParts_91 (k := 5) rfl (by rw [ev3_11]; rfl) (by decide) rfl ?_
        refine gd_goto X (tgt := 21) d_Gw_joinParts_94 (by decide) ?_
        refine gd_loc (lv' := [(0, .ref (a_self 0)), (1, .int v1), (2, .int v2), (3, .int v3_11)]) [3, 4, 5, 0] rfl ?_
        exact hkb s_joined_8 v3_11 h
      · replace h := it_p c_10 h
        refine gd_loc (lv' := []) [] rfl ?_
        exact hkx89 s_joined_8 h
    · replace h := it_p c_6 h
      refine gd_aload_n X d_Gw_joinParts_50 1 rfl ?_
      refine gd_get X (ci := 4) (C := R_Gw) (T := F_Gw) (N := 7) (v := .ref (a_joined 0)) 0 0 rfl rfl rfl (in_Gw _) 5 (by decide) (List.mem_cons_of_mem _ fl_Gw_31) rfl rfl d_Gw_joinParts_51 ?_
      refine gd_aload_n X d_Gw_joinParts_54 1 rfl ?_
      refine gd_get X (ci := 4) (C := R_Gw) (T := F_Gw) (N := 7) (v := .ref (a_grammar 0)) 0 0 rfl rfl rfl (in_Gw _) 0 (by decide) (List.mem_cons_of_mem _ fl_Gw_9) rfl rfl d_Gw_joinParts_55 ?_
      refine gd_iload_n X d_Gw_joinParts_58 2 rfl ?_
      refine gd_iload_n X d_Gw_joinParts_59 4 rfl ?_
      obtain ⟨r_12, hc_13, h⟩ := bd1_e h
      refine gd_pI X (gd_V X (As := [.int v1, .int v3]) (rest := [.ref (a_joined 0)]) (c_Gr_symbolAt l D K a_grammar s_grammar v1 v3 r_12 hc_13) 2 (gi_V ml_Gw_95 u_Gr_symbolAt) rfl ⟨rfl, rfl⟩ (by decide +kernel) ⟨by decide, by decide⟩ (ci := 1) rfl rfl rfl rfl rfl rfl (Nat.le_of_ble_eq_true rfl) ⟨Nat.zero_le _, Nat.zero_le _⟩ d_Gw_joinParts_60) [1] rfl rfl ?_
      obtain ⟨r_14, s_joined_15, hc_16, h⟩ := bd2_e h
      refine gd_cI X (gd_V X (As := [.int r_12]) (rest := []) (c_Sy_append l D K a_joined n_joined s_joined r_12 r_14 s_joined_15 hc_16) 1 (gi_V ml_Gw_79 u_Sy_append) rfl ⟨rfl, rfl⟩ (by decide +kernel) ⟨by decide, by decide⟩ (ci := 0) rfl rfl rfl rfl rfl rfl (Nat.le_of_ble_eq_true rfl) ⟨Nat.zero_le _, Nat.zero_le _⟩ d_Gw_joinParts_63) (w2 := [wd_Gw K a_self (a_grammar 0) (a_grown 0) (a_joined 0) s_self, wd_Gr K a_grammar s_grammar, wd_Sy K a_grown n_grown s_grown, wd_Sy K a_joined n_joined s_joined_15]) [3] [0, 1, 2] rfl rfl rfl rfl ⟨rfl, rfl⟩ rfl ?_
      refine gd_goto X (tgt := 82) d_Gw_joinParts_66 (by decide) ?_
      refine gd_istore X (lv' := [(5, .int r_14), (4, .int r_4), (0, .ref (a_self 0)), (1, .int v1), (2, .int v2), (3, .int v3)]) d_Gw_joinParts_82 (by decide) rfl ?_
      refine gd_iload X d_Gw_joinParts_84 0 rfl ?_
      refine gd_if_ne X (tgt := 91) d_Gw_joinParts_86 (by decide) (fun c_17 => ?_) (fun c_17 => ?_)
      · replace h := it_n c_17 h
        obtain ⟨v3_18, ev3_18, h⟩ := nm_e' h
        refine gd_iinc X (v := v3_18) (lv' := [(3, .int v3_18), (5, .int r_14), (4, .int r_4), (0, .ref (a_self 0)), (1, .int v1), (2, .int v2)]) d_Gw_joinParts_91 (k := 5) rfl (by rw [ev3_18]; rfl) (by decide) rfl ?_
        refine gd_goto X (tgt := 21) d_Gw_joinParts_94 (by decide) ?_
        refine gd_loc (lv' := [(0, .ref (a_self 0)), (1, .int v1), (2, .int v2), (3, .int v3_18)]) [3, 4, 5, 0] rfl ?_
        exact hkb s_joined_15 v3_18 h
      · replace h := it_p c_17 h
        refine gd_loc (lv' := []) [] rfl ?_
        exact hkx89 s_joined_15 h
def f_Gw_joinParts_89 (N : Nat) (n_grown : Nat) (n_joined : Nat) (s_self s_grammar s_grown s_joined : Nat → Nat → Int32) : Option ((Int32) × (Nat → Nat → Int32) × (Nat → Nat → Int32) × (Nat → Nat → Int32)) :=
  some ((0), s_self, s_grown, s_joined)
set_option maxHeartbeats 4000000 in
set_option maxRecDepth 100000 in
theorem t_Gw_joinParts_89 {p : Program} {l : Launch} {e : Env} {s : State} {m : MethodId} {args : Array Value} {below : List Frame} {meth : Method} {c : Code} {A : Nat → Prop} {D : va_G} {K : Nat → ClassId} (a_self a_grammar a_grown a_joined : Nat → Nat) (n_grown : Nat) (n_joined : Nat) (X : gx p s m args c b_Gw_joinParts 6 R_Gw w_Gw_joinParts D classes (tyK K) A) (hr : meth.sig.returnType = some .boolean) (hlk : meth.locks = false) (N : Nat) (r : Int32) (f_self f_grown f_joined : Nat → Nat → Int32) (s_self s_grammar s_grown s_joined : Nat → Nat → Int32) (h : f_Gw_joinParts_89 N n_grown n_joined s_self s_grammar s_grown s_joined = some (r, f_self, f_grown, f_joined)) : Gd p l e rm_Gw_joinParts s m args below meth c 0 0 (MQ below (sq D classes (tyK K) (some (.int r)) [wd_Gw K a_self (a_grammar 0) (a_grown 0) (a_joined 0) f_self, wd_Gr K a_grammar s_grammar, wd_Sy K a_grown n_grown f_grown, wd_Sy K a_joined n_joined f_joined] A) args s 0 0 A) D classes A 6 89 [wd_Gw K a_self (a_grammar 0) (a_grown 0) (a_joined 0) s_self, wd_Gr K a_grammar s_grammar, wd_Sy K a_grown n_grown s_grown, wd_Sy K a_joined n_joined s_joined] [] [] := by
  unfold f_Gw_joinParts_89 at h
  refine gd_iconst X (v := 0) d_Gw_joinParts_89 (by decide) ?_
  cases h
  exact gd_zret X hr hlk (by decide) d_Gw_joinParts_90
def f_Gw_joinParts_97 (N : Nat) (n_grown : Nat) (n_joined : Nat) (s_self s_grammar s_grown s_joined : Nat → Nat → Int32) (v2 : Int32) : Option ((Int32) × (Nat → Nat → Int32) × (Nat → Nat → Int32) × (Nat → Nat → Int32)) :=
  if v2 ≤ 0 then
    some ((1), s_self, s_grown, s_joined)
  else
    nm (st2 s_self 0 4 ((s_self 0 4) - v2)) fun s_self_2 =>
    ck (s_self_2 0 4) 12 <|
    nm (st2 s_grown 0 1 (s_self_2 2 (Int32.toNatClampNeg (s_self_2 0 4)))) fun s_grown_4 =>
    some ((1), s_self_2, s_grown_4, s_joined)
set_option maxHeartbeats 4000000 in
set_option maxRecDepth 100000 in
theorem t_Gw_joinParts_97 {p : Program} {l : Launch} {e : Env} {s : State} {m : MethodId} {args : Array Value} {below : List Frame} {meth : Method} {c : Code} {A : Nat → Prop} {D : va_G} {K : Nat → ClassId} (a_self a_grammar a_grown a_joined : Nat → Nat) (n_grown : Nat) (n_joined : Nat) (X : gx p s m args c b_Gw_joinParts 6 R_Gw w_Gw_joinParts D classes (tyK K) A) (hr : meth.sig.returnType = some .boolean) (hlk : meth.locks = false) (N : Nat) (r : Int32) (f_self f_grown f_joined : Nat → Nat → Int32) (s_self s_grammar s_grown s_joined : Nat → Nat → Int32) (v2 : Int32) (h : f_Gw_joinParts_97 N n_grown n_joined s_self s_grammar s_grown s_joined v2 = some (r, f_self, f_grown, f_joined)) : Gd p l e rm_Gw_joinParts s m args below meth c 0 0 (MQ below (sq D classes (tyK K) (some (.int r)) [wd_Gw K a_self (a_grammar 0) (a_grown 0) (a_joined 0) f_self, wd_Gr K a_grammar s_grammar, wd_Sy K a_grown n_grown f_grown, wd_Sy K a_joined n_joined f_joined] A) args s 0 0 A) D classes A 6 97 [wd_Gw K a_self (a_grammar 0) (a_grown 0) (a_joined 0) s_self, wd_Gr K a_grammar s_grammar, wd_Sy K a_grown n_grown s_grown, wd_Sy K a_joined n_joined s_joined] [(0, .ref (a_self 0)), (2, .int v2)] [] := by
  unfold f_Gw_joinParts_97 at h
  refine gd_iload_n X d_Gw_joinParts_97 1 rfl ?_
  refine gd_if_le X (tgt := 127) d_Gw_joinParts_98 (by decide) (fun c_1 => ?_) (fun c_1 => ?_)
  · replace h := it_p c_1 h
    refine gd_iconst X (v := 1) d_Gw_joinParts_127 (by decide) ?_
    cases h
    exact gd_zret X hr hlk (by decide) d_Gw_joinParts_128
  · replace h := it_n c_1 h
    refine gd_aload_n X d_Gw_joinParts_101 0 rfl ?_
    refine gd_dup X d_Gw_joinParts_102 rfl ?_
    refine gd_get X (ci := 4) (C := R_Gw) (T := F_Gw) (N := 7) (v := .int (s_self 0 4)) 0 0 rfl rfl rfl (in_Gw _) 4 (by decide) (List.mem_cons_of_mem _ fl_Gw_76) rfl rfl d_Gw_joinParts_103 ?_
    refine gd_iload_n X d_Gw_joinParts_106 1 rfl ?_
    refine gd_isub X d_Gw_joinParts_107 ?_
    obtain ⟨s_self_2, es_self_2, h⟩ := nm_e' h
    refine gd_put X (ci := 4) (C := R_Gw) (T := F_Gw) (N := 7) (ty := .int) (w' := [wd_Gw K a_self (a_grammar 0) (a_grown 0) (a_joined 0) s_self_2, wd_Gr K a_grammar s_grammar, wd_Sy K a_grown n_grown s_grown, wd_Sy K a_joined n_joined s_joined]) 0 0 rfl rfl rfl (in_Gw _) t_Gw t_Gw_ok n_Gw 4 (by decide) (List.mem_cons_of_mem _ fl_Gw_76) rfl rfl (by decide +kernel) rfl rfl (Nat.le_of_ble_eq_true rfl) d_Gw_joinParts_108 (by rw [es_self_2]; rfl) ?_
    refine gd_aload_n X d_Gw_joinParts_111 0 rfl ?_
    refine gd_get X (ci := 4) (C := R_Gw) (T := F_Gw) (N := 7) (v := .ref (a_grown 0)) 0 0 rfl rfl rfl (in_Gw _) 2 (by decide) (List.mem_cons_of_mem _ fl_Gw_24) rfl rfl d_Gw_joinParts_112 ?_
    refine gd_aload_n X d_Gw_joinParts_115 0 rfl ?_
    refine gd_get X (ci := 4) (C := R_Gw) (T := F_Gw) (N := 7) (v := .ref (a_self 2)) 0 0 rfl rfl rfl (in_Gw _) 3 (by decide) (List.mem_cons_of_mem _ fl_Gw_28) rfl rfl d_Gw_joinParts_116 ?_
    refine gd_aload_n X d_Gw_joinParts_119 0 rfl ?_
    refine gd_get X (ci := 4) (C := R_Gw) (T := F_Gw) (N := 7) (v := .int (s_self_2 0 4)) 0 0 rfl rfl rfl (in_Gw _) 4 (by decide) (List.mem_cons_of_mem _ fl_Gw_76) rfl rfl d_Gw_joinParts_120 ?_
    obtain ⟨hi_3, h⟩ := ck_e h
    refine gd_iald X 0 2 0 rfl rfl rfl hi_3 d_Gw_joinParts_123 ?_
    obtain ⟨s_grown_4, es_grown_4, h⟩ := nm_e' h
    refine gd_put X (ci := 0) (C := R_Sy) (T := F_Sy) (N := 2) (ty := .int) (w' := [wd_Gw K a_self (a_grammar 0) (a_grown 0) (a_joined 0) s_self_2, wd_Gr K a_grammar s_grammar, wd_Sy K a_grown n_grown s_grown_4, wd_Sy K a_joined n_joined s_joined]) 2 0 rfl rfl rfl (in_Sy _) t_Sy t_Sy_ok n_Sy 1 (by decide) (List.mem_cons_of_mem _ fl_Gw_46) rfl rfl (by decide +kernel) rfl rfl (Nat.le_of_ble_eq_true rfl) d_Gw_joinParts_124 (by rw [es_grown_4]; rfl) ?_
    refine gd_iconst X (v := 1) d_Gw_joinParts_127 (by decide) ?_
    cases h
    exact gd_zret X hr hlk (by decide) d_Gw_joinParts_128
def l_Gw_joinParts_21 (N : Nat) (n_grown : Nat) (n_joined : Nat) (s_self s_grammar s_grown : Nat → Nat → Int32) (v1 v2 : Int32) (kx89 : (Nat → Nat → Int32) → Option ((Int32) × (Nat → Nat → Int32) × (Nat → Nat → Int32) × (Nat → Nat → Int32))) (kx97 : (Nat → Nat → Int32) → Option ((Int32) × (Nat → Nat → Int32) × (Nat → Nat → Int32) × (Nat → Nat → Int32))) : Nat → (Nat → Nat → Int32) → Int32 → Option ((Int32) × (Nat → Nat → Int32) × (Nat → Nat → Int32) × (Nat → Nat → Int32))
  | 0, _, _ => none
  | n + 1, s_joined, v3 => f_Gw_joinParts_21 N n_grown n_joined (l_Gw_joinParts_21 N n_grown n_joined s_self s_grammar s_grown v1 v2 kx89 kx97 n) kx89 kx97 s_self s_grammar s_grown s_joined v1 v2 v3
set_option maxHeartbeats 4000000 in
set_option maxRecDepth 100000 in
theorem tl_Gw_joinParts_21 {p : Program} {l : Launch} {e : Env} {s : State} {m : MethodId} {args : Array Value} {below : List Frame} {meth : Method} {c : Code} {A : Nat → Prop} {D : va_G} {K : Nat → ClassId} (a_self a_grammar a_grown a_joined : Nat → Nat) (n_grown : Nat) (n_joined : Nat) (X : gx p s m args c b_Gw_joinParts 6 R_Gw w_Gw_joinParts D classes (tyK K) A) (hr : meth.sig.returnType = some .boolean) (hlk : meth.locks = false) (N : Nat) (r : Int32) (f_self f_grown f_joined : Nat → Nat → Int32) (s_self s_grammar s_grown : Nat → Nat → Int32) (v1 v2 : Int32) (kx89 : (Nat → Nat → Int32) → Option ((Int32) × (Nat → Nat → Int32) × (Nat → Nat → Int32) × (Nat → Nat → Int32))) (hkx89 : ∀ (s_joined : Nat → Nat → Int32), kx89 s_joined = some (r, f_self, f_grown, f_joined) → Gd p l e rm_Gw_joinParts s m args below meth c 0 0 (MQ below (sq D classes (tyK K) (some (.int r)) [wd_Gw K a_self (a_grammar 0) (a_grown 0) (a_joined 0) f_self, wd_Gr K a_grammar s_grammar, wd_Sy K a_grown n_grown f_grown, wd_Sy K a_joined n_joined f_joined] A) args s 0 0 A) D classes A 6 89 [wd_Gw K a_self (a_grammar 0) (a_grown 0) (a_joined 0) s_self, wd_Gr K a_grammar s_grammar, wd_Sy K a_grown n_grown s_grown, wd_Sy K a_joined n_joined s_joined] [] []) (kx97 : (Nat → Nat → Int32) → Option ((Int32) × (Nat → Nat → Int32) × (Nat → Nat → Int32) × (Nat → Nat → Int32))) (hkx97 : ∀ (s_joined : Nat → Nat → Int32), kx97 s_joined = some (r, f_self, f_grown, f_joined) → Gd p l e rm_Gw_joinParts s m args below meth c 0 0 (MQ below (sq D classes (tyK K) (some (.int r)) [wd_Gw K a_self (a_grammar 0) (a_grown 0) (a_joined 0) f_self, wd_Gr K a_grammar s_grammar, wd_Sy K a_grown n_grown f_grown, wd_Sy K a_joined n_joined f_joined] A) args s 0 0 A) D classes A 6 97 [wd_Gw K a_self (a_grammar 0) (a_grown 0) (a_joined 0) s_self, wd_Gr K a_grammar s_grammar, wd_Sy K a_grown n_grown s_grown, wd_Sy K a_joined n_joined s_joined] [(0, .ref (a_self 0)), (2, .int v2)] []) : ∀ (n : Nat) (s_joined : Nat → Nat → Int32) (v3 : Int32), l_Gw_joinParts_21 N n_grown n_joined s_self s_grammar s_grown v1 v2 kx89 kx97 n s_joined v3 = some (r, f_self, f_grown, f_joined) → Gd p l e rm_Gw_joinParts s m args below meth c 0 0 (MQ below (sq D classes (tyK K) (some (.int r)) [wd_Gw K a_self (a_grammar 0) (a_grown 0) (a_joined 0) f_self, wd_Gr K a_grammar s_grammar, wd_Sy K a_grown n_grown f_grown, wd_Sy K a_joined n_joined f_joined] A) args s 0 0 A) D classes A 6 21 [wd_Gw K a_self (a_grammar 0) (a_grown 0) (a_joined 0) s_self, wd_Gr K a_grammar s_grammar, wd_Sy K a_grown n_grown s_grown, wd_Sy K a_joined n_joined s_joined] [(0, .ref (a_self 0)), (1, .int v1), (2, .int v2), (3, .int v3)] [] := by
  intro n
  induction n with
  | zero => intro s_joined v3 h; have h : (none : Option ((Int32) × (Nat → Nat → Int32) × (Nat → Nat → Int32) × (Nat → Nat → Int32))) = some _ := h; cases h
  | succ n ih =>
    intro s_joined v3 h
    exact t_Gw_joinParts_21 a_self a_grammar a_grown a_joined n_grown n_joined X hr hlk N r f_self f_grown f_joined s_self s_grammar s_grown s_joined v1 v2 v3 (l_Gw_joinParts_21 N n_grown n_joined s_self s_grammar s_grown v1 v2 kx89 kx97 n) ih kx89 hkx89 kx97 hkx97 h
def f_Gw_joinParts_0 (N : Nat) (n_grown : Nat) (n_joined : Nat) (s_self s_grammar s_grown s_joined : Nat → Nat → Int32) (v1 : Int32) : Option ((Int32) × (Nat → Nat → Int32) × (Nat → Nat → Int32) × (Nat → Nat → Int32)) :=
  bd1 (m_Gr_slotsOfCode s_grammar v1) fun r_1 =>
  if r_1 ≤ (s_self 0 4) then
    l_Gw_joinParts_21 N n_grown n_joined s_self s_grammar s_grown v1 r_1 (fun s_joined => f_Gw_joinParts_89 N n_grown n_joined s_self s_grammar s_grown s_joined) (fun s_joined => f_Gw_joinParts_97 N n_grown n_joined s_self s_grammar s_grown s_joined r_1) N s_joined 0
  else
    some ((0), s_self, s_grown, s_joined)
set_option maxHeartbeats 4000000 in
set_option maxRecDepth 100000 in
theorem t_Gw_joinParts_0 {p : Program} {l : Launch} {e : Env} {s : State} {m : MethodId} {args : Array Value} {below : List Frame} {meth : Method} {c : Code} {A : Nat → Prop} {D : va_G} {K : Nat → ClassId} (a_self a_grammar a_grown a_joined : Nat → Nat) (n_grown : Nat) (n_joined : Nat) (X : gx p s m args c b_Gw_joinParts 6 R_Gw w_Gw_joinParts D classes (tyK K) A) (hr : meth.sig.returnType = some .boolean) (hlk : meth.locks = false) (N : Nat) (r : Int32) (f_self f_grown f_joined : Nat → Nat → Int32) (s_self s_grammar s_grown s_joined : Nat → Nat → Int32) (v1 : Int32) (h : f_Gw_joinParts_0 N n_grown n_joined s_self s_grammar s_grown s_joined v1 = some (r, f_self, f_grown, f_joined)) : Gd p l e rm_Gw_joinParts s m args below meth c 0 0 (MQ below (sq D classes (tyK K) (some (.int r)) [wd_Gw K a_self (a_grammar 0) (a_grown 0) (a_joined 0) f_self, wd_Gr K a_grammar s_grammar, wd_Sy K a_grown n_grown f_grown, wd_Sy K a_joined n_joined f_joined] A) args s 0 0 A) D classes A 6 0 [wd_Gw K a_self (a_grammar 0) (a_grown 0) (a_joined 0) s_self, wd_Gr K a_grammar s_grammar, wd_Sy K a_grown n_grown s_grown, wd_Sy K a_joined n_joined s_joined] [(0, .ref (a_self 0)), (1, .int v1)] [] := by
  unfold f_Gw_joinParts_0 at h
  refine gd_aload_n X d_Gw_joinParts_0 0 rfl ?_
  refine gd_get X (ci := 4) (C := R_Gw) (T := F_Gw) (N := 7) (v := .ref (a_grammar 0)) 0 0 rfl rfl rfl (in_Gw _) 0 (by decide) (List.mem_cons_of_mem _ fl_Gw_9) rfl rfl d_Gw_joinParts_1 ?_
  refine gd_iload_n X d_Gw_joinParts_4 1 rfl ?_
  obtain ⟨r_1, hc_2, h⟩ := bd1_e h
  refine gd_pI X (gd_V X (As := [.int v1]) (rest := []) (c_Gr_slotsOfCode l D K a_grammar s_grammar v1 r_1 hc_2) 1 (gi_V ml_Gw_66 u_Gr_slotsOfCode) rfl ⟨rfl, rfl⟩ (by decide +kernel) ⟨by decide, by decide⟩ (ci := 1) rfl rfl rfl rfl rfl rfl (Nat.le_of_ble_eq_true rfl) ⟨Nat.zero_le _, Nat.zero_le _⟩ d_Gw_joinParts_5) [1] rfl rfl ?_
  refine gd_istore_n X (lv' := [(2, .int r_1), (0, .ref (a_self 0)), (1, .int v1)]) d_Gw_joinParts_8 rfl (by decide) rfl ?_
  refine gd_iload_n X d_Gw_joinParts_9 0 rfl ?_
  refine gd_aload_n X d_Gw_joinParts_10 1 rfl ?_
  refine gd_get X (ci := 4) (C := R_Gw) (T := F_Gw) (N := 7) (v := .int (s_self 0 4)) 0 0 rfl rfl rfl (in_Gw _) 4 (by decide) (List.mem_cons_of_mem _ fl_Gw_76) rfl rfl d_Gw_joinParts_11 ?_
  refine gd_icmp_le X (tgt := 19) d_Gw_joinParts_14 (by decide) (fun c_3 => ?_) (fun c_3 => ?_)
  · replace h := it_p c_3 h
    refine gd_iconst X (v := 0) d_Gw_joinParts_19 (by decide) ?_
    refine gd_istore_n X (lv' := [(3, .int 0), (2, .int r_1), (0, .ref (a_self 0)), (1, .int v1)]) d_Gw_joinParts_20 rfl (by decide) rfl ?_
    refine gd_loc (lv' := [(0, .ref (a_self 0)), (1, .int v1), (2, .int r_1), (3, .int 0)]) [2, 3, 1, 0] rfl ?_
    exact tl_Gw_joinParts_21 a_self a_grammar a_grown a_joined n_grown n_joined X hr hlk N r f_self f_grown f_joined s_self s_grammar s_grown v1 r_1 (fun s_joined => f_Gw_joinParts_89 N n_grown n_joined s_self s_grammar s_grown s_joined) (fun s_joined h => t_Gw_joinParts_89 a_self a_grammar a_grown a_joined n_grown n_joined X hr hlk N r f_self f_grown f_joined s_self s_grammar s_grown s_joined h) (fun s_joined => f_Gw_joinParts_97 N n_grown n_joined s_self s_grammar s_grown s_joined r_1) (fun s_joined h => t_Gw_joinParts_97 a_self a_grammar a_grown a_joined n_grown n_joined X hr hlk N r f_self f_grown f_joined s_self s_grammar s_grown s_joined r_1 h) N s_joined 0 h
  · replace h := it_n c_3 h
    refine gd_iconst X (v := 0) d_Gw_joinParts_17 (by decide) ?_
    cases h
    exact gd_zret X hr hlk (by decide) d_Gw_joinParts_18
def m_Gw_joinParts (N : Nat) (n_grown : Nat) (n_joined : Nat) (s_self s_grammar s_grown s_joined : Nat → Nat → Int32) (v1 : Int32) : Option ((Int32) × (Nat → Nat → Int32) × (Nat → Nat → Int32) × (Nat → Nat → Int32)) := f_Gw_joinParts_0 N n_grown n_joined s_self s_grammar s_grown s_joined v1
set_option maxHeartbeats 4000000 in
set_option maxRecDepth 100000 in
theorem c_Gw_joinParts (l : Launch) (D : va_G) (K : Nat → ClassId) (a_self a_grammar a_grown a_joined : Nat → Nat) (n_grown : Nat) (n_joined : Nat) (N : Nat) (s_self s_grammar s_grown s_joined : Nat → Nat → Int32) (v1 : Int32) (r : Int32) (f_self f_grown f_joined : Nat → Nat → Int32) (h : m_Gw_joinParts N n_grown n_joined s_self s_grammar s_grown s_joined v1 = some (r, f_self, f_grown, f_joined)) : SMet l y_Gw_joinParts w_Gw_joinParts rm_Gw_joinParts D classes (tyK K) [.ref (a_self 0), .int v1] (some (.int r)) [wd_Gw K a_self (a_grammar 0) (a_grown 0) (a_joined 0) s_self, wd_Gr K a_grammar s_grammar, wd_Sy K a_grown n_grown s_grown, wd_Sy K a_joined n_joined s_joined] [wd_Gw K a_self (a_grammar 0) (a_grown 0) (a_joined 0) f_self, wd_Gr K a_grammar s_grammar, wd_Sy K a_grown n_grown f_grown, wd_Sy K a_joined n_joined f_joined] := by
  refine sm_of R_Gw (by decide) rfl rfl (Nat.le_of_ble_eq_true rfl) ?_
  intro p e s m below meth c A X hr hlk
  refine gd_loc (lv' := [(0, .ref (a_self 0)), (1, .int v1)]) [0, 1] rfl ?_
  exact t_Gw_joinParts_0 a_self a_grammar a_grown a_joined n_grown n_joined X hr hlk N r f_self f_grown f_joined s_self s_grammar s_grown s_joined v1 h
abbrev b_Gw_keepJoined : ByteArray := prog_4_method_8_code
def y_Gw_keepJoined : MethodName := ⟨R_Gw, "keepJoined", "()Z"⟩
def w_Gw_keepJoined : List Cond := .code y_Gw_keepJoined b_Gw_keepJoined 2 (some .boolean) :: TB
theorem k_Gw_keepJoined : Cond.code y_Gw_keepJoined b_Gw_keepJoined 2 (some .boolean) ∈ TB := tb_of 635 (by decide +kernel) (by decide +kernel)
theorem d_Gw_keepJoined_0 : decode b_Gw_keepJoined 0 = .ok (.aload_n 0, 1) := by decide +kernel
theorem d_Gw_keepJoined_1 : decode b_Gw_keepJoined 1 = .ok (.getfield 76, 3) := by decide +kernel
theorem d_Gw_keepJoined_4 : decode b_Gw_keepJoined 4 = .ok (.bipush 12, 2) := by decide +kernel
theorem d_Gw_keepJoined_6 : decode b_Gw_keepJoined 6 = .ok (.if_icmp .lt 5, 3) := by decide +kernel
theorem d_Gw_keepJoined_9 : decode b_Gw_keepJoined 9 = .ok (.iconst 0, 1) := by decide +kernel
theorem d_Gw_keepJoined_10 : decode b_Gw_keepJoined 10 = .ok (.ireturn, 1) := by decide +kernel
theorem d_Gw_keepJoined_11 : decode b_Gw_keepJoined 11 = .ok (.aload_n 0, 1) := by decide +kernel
theorem d_Gw_keepJoined_12 : decode b_Gw_keepJoined 12 = .ok (.getfield 28, 3) := by decide +kernel
theorem d_Gw_keepJoined_15 : decode b_Gw_keepJoined 15 = .ok (.aload_n 0, 1) := by decide +kernel
theorem d_Gw_keepJoined_16 : decode b_Gw_keepJoined 16 = .ok (.getfield 76, 3) := by decide +kernel
theorem d_Gw_keepJoined_19 : decode b_Gw_keepJoined 19 = .ok (.aload_n 0, 1) := by decide +kernel
theorem d_Gw_keepJoined_20 : decode b_Gw_keepJoined 20 = .ok (.getfield 24, 3) := by decide +kernel
theorem d_Gw_keepJoined_23 : decode b_Gw_keepJoined 23 = .ok (.getfield 46, 3) := by decide +kernel
theorem d_Gw_keepJoined_26 : decode b_Gw_keepJoined 26 = .ok (.iastore, 1) := by decide +kernel
theorem d_Gw_keepJoined_27 : decode b_Gw_keepJoined 27 = .ok (.aload_n 0, 1) := by decide +kernel
theorem d_Gw_keepJoined_28 : decode b_Gw_keepJoined 28 = .ok (.dup, 1) := by decide +kernel
theorem d_Gw_keepJoined_29 : decode b_Gw_keepJoined 29 = .ok (.getfield 76, 3) := by decide +kernel
theorem d_Gw_keepJoined_32 : decode b_Gw_keepJoined 32 = .ok (.iconst 1, 1) := by decide +kernel
theorem d_Gw_keepJoined_33 : decode b_Gw_keepJoined 33 = .ok (.iadd, 1) := by decide +kernel
theorem d_Gw_keepJoined_34 : decode b_Gw_keepJoined 34 = .ok (.putfield 76, 3) := by decide +kernel
theorem d_Gw_keepJoined_37 : decode b_Gw_keepJoined 37 = .ok (.iconst 0, 1) := by decide +kernel
theorem d_Gw_keepJoined_38 : decode b_Gw_keepJoined 38 = .ok (.istore_n 1, 1) := by decide +kernel
theorem d_Gw_keepJoined_39 : decode b_Gw_keepJoined 39 = .ok (.iload_n 1, 1) := by decide +kernel
theorem d_Gw_keepJoined_40 : decode b_Gw_keepJoined 40 = .ok (.aload_n 0, 1) := by decide +kernel
theorem d_Gw_keepJoined_41 : decode b_Gw_keepJoined 41 = .ok (.getfield 31, 3) := by decide +kernel
theorem d_Gw_keepJoined_44 : decode b_Gw_keepJoined 44 = .ok (.getfield 46, 3) := by decide +kernel
theorem d_Gw_keepJoined_47 : decode b_Gw_keepJoined 47 = .ok (.if_icmp .ge 29, 3) := by decide +kernel
theorem d_Gw_keepJoined_50 : decode b_Gw_keepJoined 50 = .ok (.aload_n 0, 1) := by decide +kernel
theorem d_Gw_keepJoined_51 : decode b_Gw_keepJoined 51 = .ok (.getfield 24, 3) := by decide +kernel
theorem d_Gw_keepJoined_54 : decode b_Gw_keepJoined 54 = .ok (.aload_n 0, 1) := by decide +kernel
theorem d_Gw_keepJoined_55 : decode b_Gw_keepJoined 55 = .ok (.getfield 31, 3) := by decide +kernel
theorem d_Gw_keepJoined_58 : decode b_Gw_keepJoined 58 = .ok (.iload_n 1, 1) := by decide +kernel
theorem d_Gw_keepJoined_59 : decode b_Gw_keepJoined 59 = .ok (.invokevirtual 49, 3) := by decide +kernel
theorem d_Gw_keepJoined_62 : decode b_Gw_keepJoined 62 = .ok (.invokevirtual 79, 3) := by decide +kernel
theorem d_Gw_keepJoined_65 : decode b_Gw_keepJoined 65 = .ok (.ifCond .ne 5, 3) := by decide +kernel
theorem d_Gw_keepJoined_68 : decode b_Gw_keepJoined 68 = .ok (.iconst 0, 1) := by decide +kernel
theorem d_Gw_keepJoined_69 : decode b_Gw_keepJoined 69 = .ok (.ireturn, 1) := by decide +kernel
theorem d_Gw_keepJoined_70 : decode b_Gw_keepJoined 70 = .ok (.iinc 1 1, 3) := by decide +kernel
theorem d_Gw_keepJoined_73 : decode b_Gw_keepJoined 73 = .ok (.goto (-34), 3) := by decide +kernel
theorem d_Gw_keepJoined_76 : decode b_Gw_keepJoined 76 = .ok (.iconst 1, 1) := by decide +kernel
theorem d_Gw_keepJoined_77 : decode b_Gw_keepJoined 77 = .ok (.ireturn, 1) := by decide +kernel
abbrev rm_Gw_keepJoined : Room := { frames := 1, cells := 0, slots := 0, locals := 21 }
def f_Gw_keepJoined_39 (N : Nat) (n_grown : Nat) (n_joined : Nat) (kb : (Nat → Nat → Int32) → Int32 → Option ((Int32) × (Nat → Nat → Int32) × (Nat → Nat → Int32))) (kx68 : (Nat → Nat → Int32) → Option ((Int32) × (Nat → Nat → Int32) × (Nat → Nat → Int32))) (kx76 : (Nat → Nat → Int32) → Option ((Int32) × (Nat → Nat → Int32) × (Nat → Nat → Int32))) (s_self s_grown s_joined : Nat → Nat → Int32) (v1 : Int32) : Option ((Int32) × (Nat → Nat → Int32) × (Nat → Nat → Int32)) :=
  if (s_joined 0 1) ≤ v1 then
    kx76 s_grown
  else
    bd1 (m_Sy_at n_joined s_joined v1) fun r_2 =>
    bd2 (m_Sy_append n_grown s_grown r_2) fun r_4 s_grown_5 =>
    if r_4 = 0 then
      kx68 s_grown_5
    else
      nm (v1 + 1) fun v1_8 =>
      kb s_grown_5 v1_8
set_option maxHeartbeats 4000000 in
set_option maxRecDepth 100000 in
theorem t_Gw_keepJoined_39 {p : Program} {l : Launch} {e : Env} {s : State} {m : MethodId} {args : Array Value} {below : List Frame} {meth : Method} {c : Code} {A : Nat → Prop} {D : va_G} {K : Nat → ClassId} (a_self a_grammar a_grown a_joined : Nat → Nat) (n_grown : Nat) (n_joined : Nat) (X : gx p s m args c b_Gw_keepJoined 2 R_Gw w_Gw_keepJoined D classes (tyK K) A) (hr : meth.sig.returnType = some .boolean) (hlk : meth.locks = false) (N : Nat) (r : Int32) (f_self f_grown : Nat → Nat → Int32) (s_self s_grown s_joined : Nat → Nat → Int32) (v1 : Int32) (kb : (Nat → Nat → Int32) → Int32 → Option ((Int32) × (Nat → Nat → Int32) × (Nat → Nat → Int32))) (hkb : ∀ (s_grown : Nat → Nat → Int32) (v1 : Int32), kb s_grown v1 = some (r, f_self, f_grown) → Gd p l e rm_Gw_keepJoined s m args below meth c 0 0 (MQ below (sq D classes (tyK K) (some (.int r)) [wd_Gw K a_self (a_grammar 0) (a_grown 0) (a_joined 0) f_self, wd_Sy K a_grown n_grown f_grown, wd_Sy K a_joined n_joined s_joined] A) args s 0 0 A) D classes A 2 39 [wd_Gw K a_self (a_grammar 0) (a_grown 0) (a_joined 0) s_self, wd_Sy K a_grown n_grown s_grown, wd_Sy K a_joined n_joined s_joined] [(0, .ref (a_self 0)), (1, .int v1)] []) (kx68 : (Nat → Nat → Int32) → Option ((Int32) × (Nat → Nat → Int32) × (Nat → Nat → Int32))) (hkx68 : ∀ (s_grown : Nat → Nat → Int32), kx68 s_grown = some (r, f_self, f_grown) → Gd p l e rm_Gw_keepJoined s m args below meth c 0 0 (MQ below (sq D classes (tyK K) (some (.int r)) [wd_Gw K a_self (a_grammar 0) (a_grown 0) (a_joined 0) f_self, wd_Sy K a_grown n_grown f_grown, wd_Sy K a_joined n_joined s_joined] A) args s 0 0 A) D classes A 2 68 [wd_Gw K a_self (a_grammar 0) (a_grown 0) (a_joined 0) s_self, wd_Sy K a_grown n_grown s_grown, wd_Sy K a_joined n_joined s_joined] [] []) (kx76 : (Nat → Nat → Int32) → Option ((Int32) × (Nat → Nat → Int32) × (Nat → Nat → Int32))) (hkx76 : ∀ (s_grown : Nat → Nat → Int32), kx76 s_grown = some (r, f_self, f_grown) → Gd p l e rm_Gw_keepJoined s m args below meth c 0 0 (MQ below (sq D classes (tyK K) (some (.int r)) [wd_Gw K a_self (a_grammar 0) (a_grown 0) (a_joined 0) f_self, wd_Sy K a_grown n_grown f_grown, wd_Sy K a_joined n_joined s_joined] A) args s 0 0 A) D classes A 2 76 [wd_Gw K a_self (a_grammar 0) (a_grown 0) (a_joined 0) s_self, wd_Sy K a_grown n_grown s_grown, wd_Sy K a_joined n_joined s_joined] [] []) (h : f_Gw_keepJoined_39 N n_grown n_joined kb kx68 kx76 s_self s_grown s_joined v1 = some (r, f_self, f_grown)) : Gd p l e rm_Gw_keepJoined s m args below meth c 0 0 (MQ below (sq D classes (tyK K) (some (.int r)) [wd_Gw K a_self (a_grammar 0) (a_grown 0) (a_joined 0) f_self, wd_Sy K a_grown n_grown f_grown, wd_Sy K a_joined n_joined s_joined] A) args s 0 0 A) D classes A 2 39 [wd_Gw K a_self (a_grammar 0) (a_grown 0) (a_joined 0) s_self, wd_Sy K a_grown n_grown s_grown, wd_Sy K a_joined n_joined s_joined] [(0, .ref (a_self 0)), (1, .int v1)] [] := by
  unfold f_Gw_keepJoined_39 at h
  refine gd_iload_n X d_Gw_keepJoined_39 1 rfl ?_
  refine gd_aload_n X d_Gw_keepJoined_40 0 rfl ?_
  refine gd_get X (ci := 4) (C := R_Gw) (T := F_Gw) (N := 7) (v := .ref (a_joined 0)) 0 0 rfl rfl rfl (in_Gw _) 5 (by decide) (List.mem_cons_of_mem _ fl_Gw_31) rfl rfl d_Gw_keepJoined_41 ?_
  refine gd_get X (ci := 0) (C := R_Sy) (T := F_Sy) (N := 2) (v := .int (s_joined 0 1)) 2 0 rfl rfl rfl (in_Sy _) 1 (by decide) (List.mem_cons_of_mem _ fl_Gw_46) rfl rfl d_Gw_keepJoined_44 ?_
  refine gd_icmp_ge X (tgt := 76) d_Gw_keepJoined_47 (by decide) (fun c_1 => ?_) (fun c_1 => ?_)
  · replace h := it_p c_1 h
    refine gd_loc (lv' := []) [] rfl ?_
    exact hkx76 s_grown h
  · replace h := it_n c_1 h
    refine gd_aload_n X d_Gw_keepJoined_50 0 rfl ?_
    refine gd_get X (ci := 4) (C := R_Gw) (T := F_Gw) (N := 7) (v := .ref (a_grown 0)) 0 0 rfl rfl rfl (in_Gw _) 2 (by decide) (List.mem_cons_of_mem _ fl_Gw_24) rfl rfl d_Gw_keepJoined_51 ?_
    refine gd_aload_n X d_Gw_keepJoined_54 0 rfl ?_
    refine gd_get X (ci := 4) (C := R_Gw) (T := F_Gw) (N := 7) (v := .ref (a_joined 0)) 0 0 rfl rfl rfl (in_Gw _) 5 (by decide) (List.mem_cons_of_mem _ fl_Gw_31) rfl rfl d_Gw_keepJoined_55 ?_
    refine gd_iload_n X d_Gw_keepJoined_58 1 rfl ?_
    obtain ⟨r_2, hc_3, h⟩ := bd1_e h
    refine gd_pI X (gd_V X (As := [.int v1]) (rest := [.ref (a_grown 0)]) (c_Sy_at l D K a_joined n_joined s_joined v1 r_2 hc_3) 1 (gi_V ml_Gw_49 u_Sy_at) rfl ⟨rfl, rfl⟩ (by decide +kernel) ⟨by decide, by decide⟩ (ci := 0) rfl rfl rfl rfl rfl rfl (Nat.le_of_ble_eq_true rfl) ⟨Nat.zero_le _, Nat.zero_le _⟩ d_Gw_keepJoined_59) [2] rfl rfl ?_
    obtain ⟨r_4, s_grown_5, hc_6, h⟩ := bd2_e h
    refine gd_cI X (gd_V X (As := [.int r_2]) (rest := []) (c_Sy_append l D K a_grown n_grown s_grown r_2 r_4 s_grown_5 hc_6) 1 (gi_V ml_Gw_79 u_Sy_append) rfl ⟨rfl, rfl⟩ (by decide +kernel) ⟨by decide, by decide⟩ (ci := 0) rfl rfl rfl rfl rfl rfl (Nat.le_of_ble_eq_true rfl) ⟨Nat.zero_le _, Nat.zero_le _⟩ d_Gw_keepJoined_62) (w2 := [wd_Gw K a_self (a_grammar 0) (a_grown 0) (a_joined 0) s_self, wd_Sy K a_grown n_grown s_grown_5, wd_Sy K a_joined n_joined s_joined]) [1] [0, 2] rfl rfl rfl rfl ⟨rfl, rfl⟩ rfl ?_
    refine gd_if_ne X (tgt := 70) d_Gw_keepJoined_65 (by decide) (fun c_7 => ?_) (fun c_7 => ?_)
    · replace h := it_n c_7 h
      obtain ⟨v1_8, ev1_8, h⟩ := nm_e' h
      refine gd_iinc X (v := v1_8) (lv' := [(1, .int v1_8), (0, .ref (a_self 0))]) d_Gw_keepJoined_70 (k := 1) rfl (by rw [ev1_8]; rfl) (by decide) rfl ?_
      refine gd_goto X (tgt := 39) d_Gw_keepJoined_73 (by decide) ?_
      refine gd_loc (lv' := [(0, .ref (a_self 0)), (1, .int v1_8)]) [1, 0] rfl ?_
      exact hkb s_grown_5 v1_8 h
    · replace h := it_p c_7 h
      refine gd_loc (lv' := []) [] rfl ?_
      exact hkx68 s_grown_5 h
def f_Gw_keepJoined_68 (N : Nat) (n_grown : Nat) (n_joined : Nat) (s_self s_grown s_joined : Nat → Nat → Int32) : Option ((Int32) × (Nat → Nat → Int32) × (Nat → Nat → Int32)) :=
  some ((0), s_self, s_grown)
set_option maxHeartbeats 4000000 in
set_option maxRecDepth 100000 in
theorem t_Gw_keepJoined_68 {p : Program} {l : Launch} {e : Env} {s : State} {m : MethodId} {args : Array Value} {below : List Frame} {meth : Method} {c : Code} {A : Nat → Prop} {D : va_G} {K : Nat → ClassId} (a_self a_grammar a_grown a_joined : Nat → Nat) (n_grown : Nat) (n_joined : Nat) (X : gx p s m args c b_Gw_keepJoined 2 R_Gw w_Gw_keepJoined D classes (tyK K) A) (hr : meth.sig.returnType = some .boolean) (hlk : meth.locks = false) (N : Nat) (r : Int32) (f_self f_grown : Nat → Nat → Int32) (s_self s_grown s_joined : Nat → Nat → Int32) (h : f_Gw_keepJoined_68 N n_grown n_joined s_self s_grown s_joined = some (r, f_self, f_grown)) : Gd p l e rm_Gw_keepJoined s m args below meth c 0 0 (MQ below (sq D classes (tyK K) (some (.int r)) [wd_Gw K a_self (a_grammar 0) (a_grown 0) (a_joined 0) f_self, wd_Sy K a_grown n_grown f_grown, wd_Sy K a_joined n_joined s_joined] A) args s 0 0 A) D classes A 2 68 [wd_Gw K a_self (a_grammar 0) (a_grown 0) (a_joined 0) s_self, wd_Sy K a_grown n_grown s_grown, wd_Sy K a_joined n_joined s_joined] [] [] := by
  unfold f_Gw_keepJoined_68 at h
  refine gd_iconst X (v := 0) d_Gw_keepJoined_68 (by decide) ?_
  cases h
  exact gd_zret X hr hlk (by decide) d_Gw_keepJoined_69
def f_Gw_keepJoined_76 (N : Nat) (n_grown : Nat) (n_joined : Nat) (s_self s_grown s_joined : Nat → Nat → Int32) : Option ((Int32) × (Nat → Nat → Int32) × (Nat → Nat → Int32)) :=
  some ((1), s_self, s_grown)
set_option maxHeartbeats 4000000 in
set_option maxRecDepth 100000 in
theorem t_Gw_keepJoined_76 {p : Program} {l : Launch} {e : Env} {s : State} {m : MethodId} {args : Array Value} {below : List Frame} {meth : Method} {c : Code} {A : Nat → Prop} {D : va_G} {K : Nat → ClassId} (a_self a_grammar a_grown a_joined : Nat → Nat) (n_grown : Nat) (n_joined : Nat) (X : gx p s m args c b_Gw_keepJoined 2 R_Gw w_Gw_keepJoined D classes (tyK K) A) (hr : meth.sig.returnType = some .boolean) (hlk : meth.locks = false) (N : Nat) (r : Int32) (f_self f_grown : Nat → Nat → Int32) (s_self s_grown s_joined : Nat → Nat → Int32) (h : f_Gw_keepJoined_76 N n_grown n_joined s_self s_grown s_joined = some (r, f_self, f_grown)) : Gd p l e rm_Gw_keepJoined s m args below meth c 0 0 (MQ below (sq D classes (tyK K) (some (.int r)) [wd_Gw K a_self (a_grammar 0) (a_grown 0) (a_joined 0) f_self, wd_Sy K a_grown n_grown f_grown, wd_Sy K a_joined n_joined s_joined] A) args s 0 0 A) D classes A 2 76 [wd_Gw K a_self (a_grammar 0) (a_grown 0) (a_joined 0) s_self, wd_Sy K a_grown n_grown s_grown, wd_Sy K a_joined n_joined s_joined] [] [] := by
  unfold f_Gw_keepJoined_76 at h
  refine gd_iconst X (v := 1) d_Gw_keepJoined_76 (by decide) ?_
  cases h
  exact gd_zret X hr hlk (by decide) d_Gw_keepJoined_77
def l_Gw_keepJoined_39 (N : Nat) (n_grown : Nat) (n_joined : Nat) (s_self s_joined : Nat → Nat → Int32) (kx68 : (Nat → Nat → Int32) → Option ((Int32) × (Nat → Nat → Int32) × (Nat → Nat → Int32))) (kx76 : (Nat → Nat → Int32) → Option ((Int32) × (Nat → Nat → Int32) × (Nat → Nat → Int32))) : Nat → (Nat → Nat → Int32) → Int32 → Option ((Int32) × (Nat → Nat → Int32) × (Nat → Nat → Int32))
  | 0, _, _ => none
  | n + 1, s_grown, v1 => f_Gw_keepJoined_39 N n_grown n_joined (l_Gw_keepJoined_39 N n_grown n_joined s_self s_joined kx68 kx76 n) kx68 kx76 s_self s_grown s_joined v1
set_option maxHeartbeats 4000000 in
set_option maxRecDepth 100000 in
theorem tl_Gw_keepJoined_39 {p : Program} {l : Launch} {e : Env} {s : State} {m : MethodId} {args : Array Value} {below : List Frame} {meth : Method} {c : Code} {A : Nat → Prop} {D : va_G} {K : Nat → ClassId} (a_self a_grammar a_grown a_joined : Nat → Nat) (n_grown : Nat) (n_joined : Nat) (X : gx p s m args c b_Gw_keepJoined 2 R_Gw w_Gw_keepJoined D classes (tyK K) A) (hr : meth.sig.returnType = some .boolean) (hlk : meth.locks = false) (N : Nat) (r : Int32) (f_self f_grown : Nat → Nat → Int32) (s_self s_joined : Nat → Nat → Int32) (kx68 : (Nat → Nat → Int32) → Option ((Int32) × (Nat → Nat → Int32) × (Nat → Nat → Int32))) (hkx68 : ∀ (s_grown : Nat → Nat → Int32), kx68 s_grown = some (r, f_self, f_grown) → Gd p l e rm_Gw_keepJoined s m args below meth c 0 0 (MQ below (sq D classes (tyK K) (some (.int r)) [wd_Gw K a_self (a_grammar 0) (a_grown 0) (a_joined 0) f_self, wd_Sy K a_grown n_grown f_grown, wd_Sy K a_joined n_joined s_joined] A) args s 0 0 A) D classes A 2 68 [wd_Gw K a_self (a_grammar 0) (a_grown 0) (a_joined 0) s_self, wd_Sy K a_grown n_grown s_grown, wd_Sy K a_joined n_joined s_joined] [] []) (kx76 : (Nat → Nat → Int32) → Option ((Int32) × (Nat → Nat → Int32) × (Nat → Nat → Int32))) (hkx76 : ∀ (s_grown : Nat → Nat → Int32), kx76 s_grown = some (r, f_self, f_grown) → Gd p l e rm_Gw_keepJoined s m args below meth c 0 0 (MQ below (sq D classes (tyK K) (some (.int r)) [wd_Gw K a_self (a_grammar 0) (a_grown 0) (a_joined 0) f_self, wd_Sy K a_grown n_grown f_grown, wd_Sy K a_joined n_joined s_joined] A) args s 0 0 A) D classes A 2 76 [wd_Gw K a_self (a_grammar 0) (a_grown 0) (a_joined 0) s_self, wd_Sy K a_grown n_grown s_grown, wd_Sy K a_joined n_joined s_joined] [] []) : ∀ (n : Nat) (s_grown : Nat → Nat → Int32) (v1 : Int32), l_Gw_keepJoined_39 N n_grown n_joined s_self s_joined kx68 kx76 n s_grown v1 = some (r, f_self, f_grown) → Gd p l e rm_Gw_keepJoined s m args below meth c 0 0 (MQ below (sq D classes (tyK K) (some (.int r)) [wd_Gw K a_self (a_grammar 0) (a_grown 0) (a_joined 0) f_self, wd_Sy K a_grown n_grown f_grown, wd_Sy K a_joined n_joined s_joined] A) args s 0 0 A) D classes A 2 39 [wd_Gw K a_self (a_grammar 0) (a_grown 0) (a_joined 0) s_self, wd_Sy K a_grown n_grown s_grown, wd_Sy K a_joined n_joined s_joined] [(0, .ref (a_self 0)), (1, .int v1)] [] := by
  intro n
  induction n with
  | zero => intro s_grown v1 h; have h : (none : Option ((Int32) × (Nat → Nat → Int32) × (Nat → Nat → Int32))) = some _ := h; cases h
  | succ n ih =>
    intro s_grown v1 h
    exact t_Gw_keepJoined_39 a_self a_grammar a_grown a_joined n_grown n_joined X hr hlk N r f_self f_grown s_self s_grown s_joined v1 (l_Gw_keepJoined_39 N n_grown n_joined s_self s_joined kx68 kx76 n) ih kx68 hkx68 kx76 hkx76 h
def f_Gw_keepJoined_0 (N : Nat) (n_grown : Nat) (n_joined : Nat) (s_self s_grown s_joined : Nat → Nat → Int32) : Option ((Int32) × (Nat → Nat → Int32) × (Nat → Nat → Int32)) :=
  if (s_self 0 4) < 12 then
    ck (s_self 0 4) 12 <| nm (st2 s_self 2 (Int32.toNatClampNeg (s_self 0 4)) (s_grown 0 1)) fun s_self_3 =>
    nm (st2 s_self_3 0 4 ((s_self_3 0 4) + 1)) fun s_self_4 =>
    l_Gw_keepJoined_39 N n_grown n_joined s_self_4 s_joined (fun s_grown => f_Gw_keepJoined_68 N n_grown n_joined s_self_4 s_grown s_joined) (fun s_grown => f_Gw_keepJoined_76 N n_grown n_joined s_self_4 s_grown s_joined) N s_grown 0
  else
    some ((0), s_self, s_grown)
set_option maxHeartbeats 4000000 in
set_option maxRecDepth 100000 in
theorem t_Gw_keepJoined_0 {p : Program} {l : Launch} {e : Env} {s : State} {m : MethodId} {args : Array Value} {below : List Frame} {meth : Method} {c : Code} {A : Nat → Prop} {D : va_G} {K : Nat → ClassId} (a_self a_grammar a_grown a_joined : Nat → Nat) (n_grown : Nat) (n_joined : Nat) (X : gx p s m args c b_Gw_keepJoined 2 R_Gw w_Gw_keepJoined D classes (tyK K) A) (hr : meth.sig.returnType = some .boolean) (hlk : meth.locks = false) (N : Nat) (r : Int32) (f_self f_grown : Nat → Nat → Int32) (s_self s_grown s_joined : Nat → Nat → Int32) (h : f_Gw_keepJoined_0 N n_grown n_joined s_self s_grown s_joined = some (r, f_self, f_grown)) : Gd p l e rm_Gw_keepJoined s m args below meth c 0 0 (MQ below (sq D classes (tyK K) (some (.int r)) [wd_Gw K a_self (a_grammar 0) (a_grown 0) (a_joined 0) f_self, wd_Sy K a_grown n_grown f_grown, wd_Sy K a_joined n_joined s_joined] A) args s 0 0 A) D classes A 2 0 [wd_Gw K a_self (a_grammar 0) (a_grown 0) (a_joined 0) s_self, wd_Sy K a_grown n_grown s_grown, wd_Sy K a_joined n_joined s_joined] [(0, .ref (a_self 0))] [] := by
  unfold f_Gw_keepJoined_0 at h
  refine gd_aload_n X d_Gw_keepJoined_0 0 rfl ?_
  refine gd_get X (ci := 4) (C := R_Gw) (T := F_Gw) (N := 7) (v := .int (s_self 0 4)) 0 0 rfl rfl rfl (in_Gw _) 4 (by decide) (List.mem_cons_of_mem _ fl_Gw_76) rfl rfl d_Gw_keepJoined_1 ?_
  refine gd_bipush X (v := 12) d_Gw_keepJoined_4 (by decide) ?_
  refine gd_icmp_lt X (tgt := 11) d_Gw_keepJoined_6 (by decide) (fun c_1 => ?_) (fun c_1 => ?_)
  · replace h := it_p c_1 h
    refine gd_aload_n X d_Gw_keepJoined_11 0 rfl ?_
    refine gd_get X (ci := 4) (C := R_Gw) (T := F_Gw) (N := 7) (v := .ref (a_self 2)) 0 0 rfl rfl rfl (in_Gw _) 3 (by decide) (List.mem_cons_of_mem _ fl_Gw_28) rfl rfl d_Gw_keepJoined_12 ?_
    refine gd_aload_n X d_Gw_keepJoined_15 0 rfl ?_
    refine gd_get X (ci := 4) (C := R_Gw) (T := F_Gw) (N := 7) (v := .int (s_self 0 4)) 0 0 rfl rfl rfl (in_Gw _) 4 (by decide) (List.mem_cons_of_mem _ fl_Gw_76) rfl rfl d_Gw_keepJoined_16 ?_
    refine gd_aload_n X d_Gw_keepJoined_19 0 rfl ?_
    refine gd_get X (ci := 4) (C := R_Gw) (T := F_Gw) (N := 7) (v := .ref (a_grown 0)) 0 0 rfl rfl rfl (in_Gw _) 2 (by decide) (List.mem_cons_of_mem _ fl_Gw_24) rfl rfl d_Gw_keepJoined_20 ?_
    refine gd_get X (ci := 0) (C := R_Sy) (T := F_Sy) (N := 2) (v := .int (s_grown 0 1)) 1 0 rfl rfl rfl (in_Sy _) 1 (by decide) (List.mem_cons_of_mem _ fl_Gw_46) rfl rfl d_Gw_keepJoined_23 ?_
    obtain ⟨hi_2, h⟩ := ck_e h
    obtain ⟨s_self_3, es_self_3, h⟩ := nm_e' h
    refine gd_iast X (w' := [wd_Gw K a_self (a_grammar 0) (a_grown 0) (a_joined 0) s_self_3, wd_Sy K a_grown n_grown s_grown, wd_Sy K a_joined n_joined s_joined]) 0 2 0 rfl rfl rfl hi_2 d_Gw_keepJoined_26 (by rw [es_self_3]; rfl) ?_
    refine gd_aload_n X d_Gw_keepJoined_27 0 rfl ?_
    refine gd_dup X d_Gw_keepJoined_28 rfl ?_
    refine gd_get X (ci := 4) (C := R_Gw) (T := F_Gw) (N := 7) (v := .int (s_self_3 0 4)) 0 0 rfl rfl rfl (in_Gw _) 4 (by decide) (List.mem_cons_of_mem _ fl_Gw_76) rfl rfl d_Gw_keepJoined_29 ?_
    refine gd_iconst X (v := 1) d_Gw_keepJoined_32 (by decide) ?_
    refine gd_iadd X d_Gw_keepJoined_33 ?_
    obtain ⟨s_self_4, es_self_4, h⟩ := nm_e' h
    refine gd_put X (ci := 4) (C := R_Gw) (T := F_Gw) (N := 7) (ty := .int) (w' := [wd_Gw K a_self (a_grammar 0) (a_grown 0) (a_joined 0) s_self_4, wd_Sy K a_grown n_grown s_grown, wd_Sy K a_joined n_joined s_joined]) 0 0 rfl rfl rfl (in_Gw _) t_Gw t_Gw_ok n_Gw 4 (by decide) (List.mem_cons_of_mem _ fl_Gw_76) rfl rfl (by decide +kernel) rfl rfl (Nat.le_of_ble_eq_true rfl) d_Gw_keepJoined_34 (by rw [es_self_4]; rfl) ?_
    refine gd_iconst X (v := 0) d_Gw_keepJoined_37 (by decide) ?_
    refine gd_istore_n X (lv' := [(1, .int 0), (0, .ref (a_self 0))]) d_Gw_keepJoined_38 rfl (by decide) rfl ?_
    refine gd_loc (lv' := [(0, .ref (a_self 0)), (1, .int 0)]) [1, 0] rfl ?_
    exact tl_Gw_keepJoined_39 a_self a_grammar a_grown a_joined n_grown n_joined X hr hlk N r f_self f_grown s_self_4 s_joined (fun s_grown => f_Gw_keepJoined_68 N n_grown n_joined s_self_4 s_grown s_joined) (fun s_grown h => t_Gw_keepJoined_68 a_self a_grammar a_grown a_joined n_grown n_joined X hr hlk N r f_self f_grown s_self_4 s_grown s_joined h) (fun s_grown => f_Gw_keepJoined_76 N n_grown n_joined s_self_4 s_grown s_joined) (fun s_grown h => t_Gw_keepJoined_76 a_self a_grammar a_grown a_joined n_grown n_joined X hr hlk N r f_self f_grown s_self_4 s_grown s_joined h) N s_grown 0 h
  · replace h := it_n c_1 h
    refine gd_iconst X (v := 0) d_Gw_keepJoined_9 (by decide) ?_
    cases h
    exact gd_zret X hr hlk (by decide) d_Gw_keepJoined_10
def m_Gw_keepJoined (N : Nat) (n_grown : Nat) (n_joined : Nat) (s_self s_grown s_joined : Nat → Nat → Int32) : Option ((Int32) × (Nat → Nat → Int32) × (Nat → Nat → Int32)) := f_Gw_keepJoined_0 N n_grown n_joined s_self s_grown s_joined
set_option maxHeartbeats 4000000 in
set_option maxRecDepth 100000 in
theorem c_Gw_keepJoined (l : Launch) (D : va_G) (K : Nat → ClassId) (a_self a_grammar a_grown a_joined : Nat → Nat) (n_grown : Nat) (n_joined : Nat) (N : Nat) (s_self s_grown s_joined : Nat → Nat → Int32) (r : Int32) (f_self f_grown : Nat → Nat → Int32) (h : m_Gw_keepJoined N n_grown n_joined s_self s_grown s_joined = some (r, f_self, f_grown)) : SMet l y_Gw_keepJoined w_Gw_keepJoined rm_Gw_keepJoined D classes (tyK K) [.ref (a_self 0)] (some (.int r)) [wd_Gw K a_self (a_grammar 0) (a_grown 0) (a_joined 0) s_self, wd_Sy K a_grown n_grown s_grown, wd_Sy K a_joined n_joined s_joined] [wd_Gw K a_self (a_grammar 0) (a_grown 0) (a_joined 0) f_self, wd_Sy K a_grown n_grown f_grown, wd_Sy K a_joined n_joined s_joined] := by
  refine sm_of R_Gw (by decide) rfl rfl (Nat.le_of_ble_eq_true rfl) ?_
  intro p e s m below meth c A X hr hlk
  refine gd_loc (lv' := [(0, .ref (a_self 0))]) [0] rfl ?_
  exact t_Gw_keepJoined_0 a_self a_grammar a_grown a_joined n_grown n_joined X hr hlk N r f_self f_grown s_self s_grown s_joined h
