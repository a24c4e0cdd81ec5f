abbrev b_Gw_layOut : ByteArray := prog_4_method_5_code
def y_Gw_layOut : MethodName := ⟨R_Gw, "layOut", "(LRuleTrees$Symbols;)Z"⟩
def w_Gw_layOut : List Cond := .code y_Gw_layOut b_Gw_layOut 4 (some .boolean) :: TB
theorem k_Gw_layOut : Cond.code y_Gw_layOut b_Gw_layOut 4 (some .boolean) ∈ TB := tb_of 618 (by decide +kernel) (by decide +kernel)
theorem d_Gw_layOut_0 : decode b_Gw_layOut 0 = .ok (.aload_n 0, 1) := by decide +kernel
theorem d_Gw_layOut_1 : decode b_Gw_layOut 1 = .ok (.getfield 24, 3) := by decide +kernel
theorem d_Gw_layOut_4 : decode b_Gw_layOut 4 = .ok (.invokevirtual 72, 3) := by decide +kernel
theorem d_Gw_layOut_7 : decode b_Gw_layOut 7 = .ok (.pop, 1) := by decide +kernel
theorem d_Gw_layOut_8 : decode b_Gw_layOut 8 = .ok (.aload_n 0, 1) := by decide +kernel
theorem d_Gw_layOut_9 : decode b_Gw_layOut 9 = .ok (.iconst 0, 1) := by decide +kernel
theorem d_Gw_layOut_10 : decode b_Gw_layOut 10 = .ok (.putfield 76, 3) := by decide +kernel
theorem d_Gw_layOut_13 : decode b_Gw_layOut 13 = .ok (.aload_n 1, 1) := by decide +kernel
theorem d_Gw_layOut_14 : decode b_Gw_layOut 14 = .ok (.getfield 46, 3) := by decide +kernel
theorem d_Gw_layOut_17 : decode b_Gw_layOut 17 = .ok (.iconst 1, 1) := by decide +kernel
theorem d_Gw_layOut_18 : decode b_Gw_layOut 18 = .ok (.isub, 1) := by decide +kernel
theorem d_Gw_layOut_19 : decode b_Gw_layOut 19 = .ok (.istore_n 2, 1) := by decide +kernel
theorem d_Gw_layOut_20 : decode b_Gw_layOut 20 = .ok (.iload_n 2, 1) := by decide +kernel
theorem d_Gw_layOut_21 : decode b_Gw_layOut 21 = .ok (.ifCond .lt 58, 3) := by decide +kernel
theorem d_Gw_layOut_24 : decode b_Gw_layOut 24 = .ok (.aload_n 1, 1) := by decide +kernel
theorem d_Gw_layOut_25 : decode b_Gw_layOut 25 = .ok (.iload_n 2, 1) := by decide +kernel
theorem d_Gw_layOut_26 : decode b_Gw_layOut 26 = .ok (.invokevirtual 49, 3) := by decide +kernel
theorem d_Gw_layOut_29 : decode b_Gw_layOut 29 = .ok (.istore_n 3, 1) := by decide +kernel
theorem d_Gw_layOut_30 : decode b_Gw_layOut 30 = .ok (.aload_n 0, 1) := by decide +kernel
theorem d_Gw_layOut_31 : decode b_Gw_layOut 31 = .ok (.getfield 31, 3) := by decide +kernel
theorem d_Gw_layOut_34 : decode b_Gw_layOut 34 = .ok (.invokevirtual 72, 3) := by decide +kernel
theorem d_Gw_layOut_37 : decode b_Gw_layOut 37 = .ok (.pop, 1) := by decide +kernel
theorem d_Gw_layOut_38 : decode b_Gw_layOut 38 = .ok (.iload_n 3, 1) := by decide +kernel
theorem d_Gw_layOut_39 : decode b_Gw_layOut 39 = .ok (.ifCond .ge 15, 3) := by decide +kernel
theorem d_Gw_layOut_42 : decode b_Gw_layOut 42 = .ok (.aload_n 0, 1) := by decide +kernel
theorem d_Gw_layOut_43 : decode b_Gw_layOut 43 = .ok (.getfield 31, 3) := by decide +kernel
theorem d_Gw_layOut_46 : decode b_Gw_layOut 46 = .ok (.iload_n 3, 1) := by decide +kernel
theorem d_Gw_layOut_47 : decode b_Gw_layOut 47 = .ok (.invokevirtual 79, 3) := by decide +kernel
theorem d_Gw_layOut_50 : decode b_Gw_layOut 50 = .ok (.pop, 1) := by decide +kernel
theorem d_Gw_layOut_51 : decode b_Gw_layOut 51 = .ok (.goto 13, 3) := by decide +kernel
theorem d_Gw_layOut_54 : decode b_Gw_layOut 54 = .ok (.aload_n 0, 1) := by decide +kernel
theorem d_Gw_layOut_55 : decode b_Gw_layOut 55 = .ok (.iload_n 3, 1) := by decide +kernel
theorem d_Gw_layOut_56 : decode b_Gw_layOut 56 = .ok (.invokevirtual 82, 3) := by decide +kernel
theorem d_Gw_layOut_59 : decode b_Gw_layOut 59 = .ok (.ifCond .ne 5, 3) := by decide +kernel
theorem d_Gw_layOut_62 : decode b_Gw_layOut 62 = .ok (.iconst 0, 1) := by decide +kernel
theorem d_Gw_layOut_63 : decode b_Gw_layOut 63 = .ok (.ireturn, 1) := by decide +kernel
theorem d_Gw_layOut_64 : decode b_Gw_layOut 64 = .ok (.aload_n 0, 1) := by decide +kernel
theorem d_Gw_layOut_65 : decode b_Gw_layOut 65 = .ok (.invokevirtual 85, 3) := by decide +kernel
theorem d_Gw_layOut_68 : decode b_Gw_layOut 68 = .ok (.ifCond .ne 5, 3) := by decide +kernel
theorem d_Gw_layOut_71 : decode b_Gw_layOut 71 = .ok (.iconst 0, 1) := by decide +kernel
theorem d_Gw_layOut_72 : decode b_Gw_layOut 72 = .ok (.ireturn, 1) := by decide +kernel
theorem d_Gw_layOut_73 : decode b_Gw_layOut 73 = .ok (.iinc 2 (-1), 3) := by decide +kernel
theorem d_Gw_layOut_76 : decode b_Gw_layOut 76 = .ok (.goto (-56), 3) := by decide +kernel
theorem d_Gw_layOut_79 : decode b_Gw_layOut 79 = .ok (.iconst 1, 1) := by decide +kernel
theorem d_Gw_layOut_80 : decode b_Gw_layOut 80 = .ok (.ireturn, 1) := by decide +kernel
theorem ml_Gw_72 : Cond.methodLink R_Gw 72 ⟨"RuleTrees$Symbols", "empty", "()I"⟩ ∈ TB := tb_of 619 (by decide +kernel) (by decide +kernel)
theorem ml_Gw_82 : Cond.methodLink R_Gw 82 ⟨"RuleTrees$Grower", "joinParts", "(I)Z"⟩ ∈ TB := tb_of 621 (by decide +kernel) (by decide +kernel)
theorem u_Gw_joinParts : (Cond.instanceMethod y_Gw_joinParts ∈ TB ∧ Cond.selects R_Gw y_Gw_joinParts y_Gw_joinParts ∈ TB) ∧ Cond.initialized R_Gw ∈ TB ∧ Cond.code y_Gw_joinParts b_Gw_joinParts 6 (some .boolean) ∈ TB := ⟨⟨(tb_of 623 (by decide +kernel) (by decide +kernel)), (tb_of 26 (by decide +kernel) (by decide +kernel))⟩, (tb_of 66 (by decide +kernel) (by decide +kernel)), k_Gw_joinParts⟩
theorem ml_Gw_85 : Cond.methodLink R_Gw 85 ⟨"RuleTrees$Grower", "keepJoined", "()Z"⟩ ∈ TB := tb_of 632 (by decide +kernel) (by decide +kernel)
theorem u_Gw_keepJoined : (Cond.instanceMethod y_Gw_keepJoined ∈ TB ∧ Cond.selects R_Gw y_Gw_keepJoined y_Gw_keepJoined ∈ TB) ∧ Cond.initialized R_Gw ∈ TB ∧ Cond.code y_Gw_keepJoined b_Gw_keepJoined 2 (some .boolean) ∈ TB := ⟨⟨(tb_of 634 (by decide +kernel) (by decide +kernel)), (tb_of 28 (by decide +kernel) (by decide +kernel))⟩, (tb_of 66 (by decide +kernel) (by decide +kernel)), k_Gw_keepJoined⟩
abbrev rm_Gw_layOut : Room := { frames := 3, cells := 0, slots := 0, locals := 69 }
def f_Gw_layOut_20 (N : Nat) (n_grown : Nat) (n_joined : Nat) (n_p0 : Nat) (kb : (Nat → Nat → Int32) → (Nat → Nat → Int32) → (Nat → Nat → Int32) → Int32 → Option ((Int32) × (Nat → Nat → Int32) × (Nat → Nat → Int32) × (Nat → Nat → Int32))) (kx62 : (Nat → Nat → Int32) → (Nat → Nat → Int32) → (Nat → Nat → Int32) → Option ((Int32) × (Nat → Nat → Int32) × (Nat → Nat → Int32) × (Nat → Nat → Int32))) (kx71 : (Nat → Nat → Int32) → (Nat → Nat → Int32) → (Nat → Nat → Int32) → Option ((Int32) × (Nat → Nat → Int32) × (Nat → Nat → Int32) × (Nat → Nat → Int32))) (kx79 : (Nat → Nat → Int32) → (Nat → Nat → Int32) → (Nat → Nat → Int32) → Option ((Int32) × (Nat → Nat → Int32) × (Nat → Nat → Int32) × (Nat → Nat → Int32))) (s_self s_grammar s_grown s_joined s_p0 : Nat → Nat → Int32) (v2 : Int32) : Option ((Int32) × (Nat → Nat → Int32) × (Nat → Nat → Int32) × (Nat → Nat → Int32)) :=
  if v2 < 0 then
    kx79 s_self s_grown s_joined
  else
    bd1 (m_Sy_at n_p0 s_p0 v2) fun r_2 =>
    bd2 (m_Sy_empty n_joined s_joined) fun r_4 s_joined_5 =>
    if 0 ≤ r_2 then
      bd4 (m_Gw_joinParts N n_grown n_joined s_self s_grammar s_grown s_joined_5 r_2) fun r_8 s_self_9 s_grown_10 s_joined_11 =>
      if r_8 = 0 then
        kx62 s_self_9 s_grown_10 s_joined_11
      else
        bd3 (m_Gw_keepJoined N n_grown n_joined s_self_9 s_grown_10 s_joined_11) fun r_14 s_self_15 s_grown_16 =>
        if r_14 = 0 then
          kx71 s_self_15 s_grown_16 s_joined_11
        else
          nm (v2 + (-1)) fun v2_19 =>
          kb s_self_15 s_grown_16 s_joined_11 v2_19
    else
      bd2 (m_Sy_append n_joined s_joined_5 r_2) fun r_20 s_joined_21 =>
      bd3 (m_Gw_keepJoined N n_grown n_joined s_self s_grown s_joined_21) fun r_23 s_self_24 s_grown_25 =>
      if r_23 = 0 then
        kx71 s_self_24 s_grown_25 s_joined_21
      else
        nm (v2 + (-1)) fun v2_28 =>
        kb s_self_24 s_grown_25 s_joined_21 v2_28
set_option maxHeartbeats 4000000 in
set_option maxRecDepth 100000 in
theorem t_Gw_layOut_20 {p : Program} {l : Launch} {e : Env} {s : State} {m : MethodId} {args : Array Value} {below : List Frame} {meth : Method} {c : Code} {A : Nat → Prop} {D : va_G} {K : Nat → ClassId} (a_self a_grammar a_grown a_joined a_p0 : Nat → Nat) (n_grown : Nat) (n_joined : Nat) (n_p0 : Nat) (X : gx p s m args c b_Gw_layOut 4 R_Gw w_Gw_layOut D classes (tyK K) A) (hr : meth.sig.returnType = some .boolean) (hlk : meth.locks = false) (N : Nat) (r : Int32) (f_self f_grown f_joined : Nat → Nat → Int32) (s_self s_grammar s_grown s_joined s_p0 : Nat → Nat → Int32) (v2 : Int32) (kb : (Nat → Nat → Int32) → (Nat → Nat → Int32) → (Nat → Nat → Int32) → Int32 → Option ((Int32) × (Nat → Nat → Int32) × (Nat → Nat → Int32) × (Nat → Nat → Int32))) (hkb : ∀ (s_self s_grown s_joined : Nat → Nat → Int32) (v2 : Int32), kb s_self s_grown s_joined v2 = some (r, f_self, f_grown, f_joined) → Gd p l e rm_Gw_layOut s m args below meth c 0 0 (MQ below (sq D classes (tyK K) (some (.int r)) [wd_Gw K a_self (a_grammar 0) (a_grown 0) (a_joined 0) f_self, wd_Gr K a_grammar s_grammar, wd_Sy K a_grown n_grown f_grown, wd_Sy K a_joined n_joined f_joined, wd_Sy K a_p0 n_p0 s_p0] A) args s 0 0 A) D classes A 4 20 [wd_Gw K a_self (a_grammar 0) (a_grown 0) (a_joined 0) s_self, wd_Gr K a_grammar s_grammar, wd_Sy K a_grown n_grown s_grown, wd_Sy K a_joined n_joined s_joined, wd_Sy K a_p0 n_p0 s_p0] [(0, .ref (a_self 0)), (1, .ref (a_p0 0)), (2, .int v2)] []) (kx62 : (Nat → Nat → Int32) → (Nat → Nat → Int32) → (Nat → Nat → Int32) → Option ((Int32) × (Nat → Nat → Int32) × (Nat → Nat → Int32) × (Nat → Nat → Int32))) (hkx62 : ∀ (s_self s_grown s_joined : Nat → Nat → Int32), kx62 s_self s_grown s_joined = some (r, f_self, f_grown, f_joined) → Gd p l e rm_Gw_layOut s m args below meth c 0 0 (MQ below (sq D classes (tyK K) (some (.int r)) [wd_Gw K a_self (a_grammar 0) (a_grown 0) (a_joined 0) f_self, wd_Gr K a_grammar s_grammar, wd_Sy K a_grown n_grown f_grown, wd_Sy K a_joined n_joined f_joined, wd_Sy K a_p0 n_p0 s_p0] A) args s 0 0 A) D classes A 4 62 [wd_Gw K a_self (a_grammar 0) (a_grown 0) (a_joined 0) s_self, wd_Gr K a_grammar s_grammar, wd_Sy K a_grown n_grown s_grown, wd_Sy K a_joined n_joined s_joined, wd_Sy K a_p0 n_p0 s_p0] [] []) (kx71 : (Nat → Nat → Int32) → (Nat → Nat → Int32) → (Nat → Nat → Int32) → Option ((Int32) × (Nat → Nat → Int32) × (Nat → Nat → Int32) × (Nat → Nat → Int32))) (hkx71 : ∀ (s_self s_grown s_joined : Nat → Nat → Int32), kx71 s_self s_grown s_joined = some (r, f_self, f_grown, f_joined) → Gd p l e rm_Gw_layOut s m args below meth c 0 0 (MQ below (sq D classes (tyK K) (some (.int r)) [wd_Gw K a_self (a_grammar 0) (a_grown 0) (a_joined 0) f_self, wd_Gr K a_grammar s_grammar, wd_Sy K a_grown n_grown f_grown, wd_Sy K a_joined n_joined f_joined, wd_Sy K a_p0 n_p0 s_p0] A) args s 0 0 A) D classes A 4 71 [wd_Gw K a_self (a_grammar 0) (a_grown 0) (a_joined 0) s_self, wd_Gr K a_grammar s_grammar, wd_Sy K a_grown n_grown s_grown, wd_Sy K a_joined n_joined s_joined, wd_Sy K a_p0 n_p0 s_p0] [] []) (kx79 : (Nat → Nat → Int32) → (Nat → Nat → Int32) → (Nat → Nat → Int32) → Option ((Int32) × (Nat → Nat → Int32) × (Nat → Nat → Int32) × (Nat → Nat → Int32))) (hkx79 : ∀ (s_self s_grown s_joined : Nat → Nat → Int32), kx79 s_self s_grown s_joined = some (r, f_self, f_grown, f_joined) → Gd p l e rm_Gw_layOut s m args below meth c 0 0 (MQ below (sq D classes (tyK K) (some (.int r)) [wd_Gw K a_self (a_grammar 0) (a_grown 0) (a_joined 0) f_self, wd_Gr K a_grammar s_grammar, wd_Sy K a_grown n_grown f_grown, wd_Sy K a_joined n_joined f_joined, wd_Sy K a_p0 n_p0 s_p0] A) args s 0 0 A) D classes A 4 79 [wd_Gw K a_self (a_grammar 0) (a_grown 0) (a_joined 0) s_self, wd_Gr K a_grammar s_grammar, wd_Sy K a_grown n_grown s_grown, wd_Sy K a_joined n_joined s_joined, wd_Sy K a_p0 n_p0 s_p0] [] []) (h : f_Gw_layOut_20 N n_grown n_joined n_p0 kb kx62 kx71 kx79 s_self s_grammar s_grown s_joined s_p0 v2 = some (r, f_self, f_grown, f_joined)) : Gd p l e rm_Gw_layOut s m args below meth c 0 0 (MQ below (sq D classes (tyK K) (some (.int r)) [wd_Gw K a_self (a_grammar 0) (a_grown 0) (a_joined 0) f_self, wd_Gr K a_grammar s_grammar, wd_Sy K a_grown n_grown f_grown, wd_Sy K a_joined n_joined f_joined, wd_Sy K a_p0 n_p0 s_p0] A) args s 0 0 A) D classes A 4 20 [wd_Gw K a_self (a_grammar 0) (a_grown 0) (a_joined 0) s_self, wd_Gr K a_grammar s_grammar, wd_Sy K a_grown n_grown s_grown, wd_Sy K a_joined n_joined s_joined, wd_Sy K a_p0 n_p0 s_p0] [(0, .ref (a_self 0)), (1, .ref (a_p0 0)), (2, .int v2)] [] := by
  unfold f_Gw_layOut_20 at h
  refine gd_iload_n X d_Gw_layOut_20 2 rfl ?_
  refine gd_if_lt X (tgt := 79) d_Gw_layOut_21 (by decide) (fun c_1 => ?_) (fun c_1 => ?_)
  · replace h := it_p c_1 h
    refine gd_loc (lv' := []) [] rfl ?_
    exact hkx79 s_self s_grown s_joined h
  · replace h := it_n c_1 h
    refine gd_aload_n X d_Gw_layOut_24 1 rfl ?_
    refine gd_iload_n X d_Gw_layOut_25 2 rfl ?_
    obtain ⟨r_2, hc_3, h⟩ := bd1_e h
    refine gd_pI X (gd_V X (As := [.int v2]) (rest := []) (c_Sy_at l D K a_p0 n_p0 s_p0 v2 r_2 hc_3) 1 (gi_V ml_Gw_49 u_Sy_at) rfl ⟨rfl, rfl⟩ (by decide +kernel) ⟨by decide, by decide⟩ (ci := 0) rfl rfl rfl rfl rfl rfl (Nat.le_of_ble_eq_true rfl) ⟨Nat.zero_le _, Nat.zero_le _⟩ d_Gw_layOut_26) [4] rfl rfl ?_
    refine gd_istore_n X (lv' := [(3, .int r_2), (0, .ref (a_self 0)), (1, .ref (a_p0 0)), (2, .int v2)]) d_Gw_layOut_29 rfl (by decide) rfl ?_
    refine gd_aload_n X d_Gw_layOut_30 1 rfl ?_
    refine gd_get X (ci := 4) (C := R_Gw) (T := F_Gw) (N := 7) (v := .ref (a_joined 0)) 0 0 rfl rfl rfl (in_Gw _) 5 (by decide) (List.mem_cons_of_mem _ fl_Gw_31) rfl rfl d_Gw_layOut_31 ?_
    obtain ⟨r_4, s_joined_5, hc_6, h⟩ := bd2_e h
    refine gd_cI X (gd_V X (As := []) (rest := []) (c_Sy_empty l D K a_joined n_joined s_joined r_4 s_joined_5 hc_6) 0 (gi_V ml_Gw_72 u_Sy_empty) rfl ⟨rfl, rfl⟩ (by decide +kernel) ⟨by decide, by decide⟩ (ci := 0) rfl rfl rfl rfl rfl rfl (Nat.le_of_ble_eq_true rfl) ⟨Nat.zero_le _, Nat.zero_le _⟩ d_Gw_layOut_34) (w2 := [wd_Gw K a_self (a_grammar 0) (a_grown 0) (a_joined 0) s_self, wd_Gr K a_grammar s_grammar, wd_Sy K a_grown n_grown s_grown, wd_Sy K a_joined n_joined s_joined_5, wd_Sy K a_p0 n_p0 s_p0]) [3] [0, 1, 2, 4] rfl rfl rfl rfl ⟨rfl, rfl⟩ rfl ?_
    refine gd_pop X d_Gw_layOut_37 rfl ?_
    refine gd_iload_n X d_Gw_layOut_38 0 rfl ?_
    refine gd_if_ge X (tgt := 54) d_Gw_layOut_39 (by decide) (fun c_7 => ?_) (fun c_7 => ?_)
    · replace h := it_p c_7 h
      refine gd_aload_n X d_Gw_layOut_54 1 rfl ?_
      refine gd_iload_n X d_Gw_layOut_55 0 rfl ?_
      obtain ⟨r_8, s_self_9, s_grown_10, s_joined_11, hc_12, h⟩ := bd4_e h
      refine gd_cI X (gd_V X (As := [.int r_2]) (rest := []) (c_Gw_joinParts l D K a_self a_grammar a_grown a_joined n_grown n_joined N s_self s_grammar s_grown s_joined_5 r_2 r_8 s_self_9 s_grown_10 s_joined_11 hc_12) 1 (gi_V ml_Gw_82 u_Gw_joinParts) rfl ⟨rfl, rfl⟩ (by decide +kernel) ⟨by decide, by decide⟩ (ci := 4) rfl rfl rfl rfl rfl rfl (Nat.le_of_ble_eq_true rfl) ⟨Nat.zero_le _, Nat.zero_le _⟩ d_Gw_layOut_56) (w2 := [wd_Gw K a_self (a_grammar 0) (a_grown 0) (a_joined 0) s_self_9, wd_Gr K a_grammar s_grammar, wd_Sy K a_grown n_grown s_grown_10, wd_Sy K a_joined n_joined s_joined_11, wd_Sy K a_p0 n_p0 s_p0]) [0, 1, 2, 3] [4] rfl rfl rfl rfl ⟨rfl, rfl⟩ rfl ?_
      refine gd_if_ne X (tgt := 64) d_Gw_layOut_59 (by decide) (fun c_13 => ?_) (fun c_13 => ?_)
      · replace h := it_n c_13 h
        refine gd_aload_n X d_Gw_layOut_64 1 rfl ?_
        obtain ⟨r_14, s_self_15, s_grown_16, hc_17, h⟩ := bd3_e h
        refine gd_cI X (gd_V X (As := []) (rest := []) (c_Gw_keepJoined l D K a_self a_grammar a_grown a_joined n_grown n_joined N s_self_9 s_grown_10 s_joined_11 r_14 s_self_15 s_grown_16 hc_17) 0 (gi_V ml_Gw_85 u_Gw_keepJoined) rfl ⟨rfl, rfl⟩ (by decide +kernel) ⟨by decide, by decide⟩ (ci := 4) rfl rfl rfl rfl rfl rfl (Nat.le_of_ble_eq_true rfl) ⟨Nat.zero_le _, Nat.zero_le _⟩ d_Gw_layOut_65) (w2 := [wd_Gw K a_self (a_grammar 0) (a_grown 0) (a_joined 0) s_self_15, wd_Gr K a_grammar s_grammar, wd_Sy K a_grown n_grown s_grown_16, wd_Sy K a_joined n_joined s_joined_11, wd_Sy K a_p0 n_p0 s_p0]) [0, 2, 3] [1, 4] rfl rfl rfl rfl ⟨rfl, rfl⟩ rfl ?_
        refine gd_if_ne X (tgt := 73) d_Gw_layOut_68 (by decide) (fun c_18 => ?_) (fun c_18 => ?_)
        · replace h := it_n c_18 h
          obtain ⟨v2_19, ev2_19, h⟩ := nm_e' h
          refine gd_iinc X (v := v2_19) (lv' := [(2, .int v2_19), (3, .int r_2), (0, .ref (a_self 0)), (1, .ref (a_p0 0))]) d_Gw_layOut_73 (k := 3) rfl (by rw [ev2_19, show Int32.ofInt (-1) = (-1) from by decide]) (by decide) rfl ?_
          refine gd_goto X (tgt := 20) d_Gw_layOut_76 (by decide) ?_
          refine gd_loc (lv' := [(0, .ref (a_self 0)), (1, .ref (a_p0 0)), (2, .int v2_19)]) [2, 3, 0] rfl ?_
          exact hkb s_self_15 s_grown_16 s_joined_11 v2_19 h
        · replace h := it_p c_18 h
          refine gd_loc (lv' := []) [] rfl ?_
          exact hkx71 s_self_15 s_grown_16 s_joined_11 h
      · replace h := it_p c_13 h
        refine gd_loc (lv' := []) [] rfl ?_
        exact hkx62 s_self_9 s_grown_10 s_joined_11 h
    · replace h := it_n c_7 h
      refine gd_aload_n X d_Gw_layOut_42 1 rfl ?_
      refine gd_get X (ci := 4) (C := R_Gw) (T := F_Gw) (N := 7) (v := .ref (a_joined 0)) 0 0 rfl rfl rfl (in_Gw _) 5 (by decide) (List.mem_cons_of_mem _ fl_Gw_31) rfl rfl d_Gw_layOut_43 ?_
      refine gd_iload_n X d_Gw_layOut_46 0 rfl ?_
      obtain ⟨r_20, s_joined_21, hc_22, h⟩ := bd2_e h
      refine gd_cI X (gd_V X (As := [.int r_2]) (rest := []) (c_Sy_append l D K a_joined n_joined s_joined_5 r_2 r_20 s_joined_21 hc_22) 1 (gi_V ml_Gw_79 u_Sy_append) rfl ⟨rfl, rfl⟩ (by decide +kernel) ⟨by decide, by decide⟩ (ci := 0) rfl rfl rfl rfl rfl rfl (Nat.le_of_ble_eq_true rfl) ⟨Nat.zero_le _, Nat.zero_le _⟩ d_Gw_layOut_47) (w2 := [wd_Gw K a_self (a_grammar 0) (a_grown 0) (a_joined 0) s_self, wd_Gr K a_grammar s_grammar, wd_Sy K a_grown n_grown s_grown, wd_Sy K a_joined n_joined s_joined_21, wd_Sy K a_p0 n_p0 s_p0]) [3] [0, 1, 2, 4] rfl rfl rfl rfl ⟨rfl, rfl⟩ rfl ?_
      refine gd_pop X d_Gw_layOut_50 rfl ?_
      refine gd_goto X (tgt := 64) d_Gw_layOut_51 (by decide) ?_
      refine gd_aload_n X d_Gw_layOut_64 1 rfl ?_
      obtain ⟨r_23, s_self_24, s_grown_25, hc_26, h⟩ := bd3_e h
      refine gd_cI X (gd_V X (As := []) (rest := []) (c_Gw_keepJoined l D K a_self a_grammar a_grown a_joined n_grown n_joined N s_self s_grown s_joined_21 r_23 s_self_24 s_grown_25 hc_26) 0 (gi_V ml_Gw_85 u_Gw_keepJoined) rfl ⟨rfl, rfl⟩ (by decide +kernel) ⟨by decide, by decide⟩ (ci := 4) rfl rfl rfl rfl rfl rfl (Nat.le_of_ble_eq_true rfl) ⟨Nat.zero_le _, Nat.zero_le _⟩ d_Gw_layOut_65) (w2 := [wd_Gw K a_self (a_grammar 0) (a_grown 0) (a_joined 0) s_self_24, wd_Gr K a_grammar s_grammar, wd_Sy K a_grown n_grown s_grown_25, wd_Sy K a_joined n_joined s_joined_21, wd_Sy K a_p0 n_p0 s_p0]) [0, 2, 3] [1, 4] rfl rfl rfl rfl ⟨rfl, rfl⟩ rfl ?_
      refine gd_if_ne X (tgt := 73) d_Gw_layOut_68 (by decide) (fun c_27 => ?_) (fun c_27 => ?_)
      · replace h := it_n c_27 h
        obtain ⟨v2_28, ev2_28, h⟩ := nm_e' h
        refine gd_iinc X (v := v2_28) (lv' := [(2, .int v2_28), (3, .int r_2), (0, .ref (a_self 0)), (1, .ref (a_p0 0))]) d_Gw_layOut_73 (k := 3) rfl (by rw [ev2_28, show Int32.ofInt (-1) = (-1) from by decide]) (by decide) rfl ?_
        refine gd_goto X (tgt := 20) d_Gw_layOut_76 (by decide) ?_
        refine gd_loc (lv' := [(0, .ref (a_self 0)), (1, .ref (a_p0 0)), (2, .int v2_28)]) [2, 3, 0] rfl ?_
        exact hkb s_self_24 s_grown_25 s_joined_21 v2_28 h
      · replace h := it_p c_27 h
        refine gd_loc (lv' := []) [] rfl ?_
        exact hkx71 s_self_24 s_grown_25 s_joined_21 h
def f_Gw_layOut_62 (N : Nat) (n_grown : Nat) (n_joined : Nat) (n_p0 : Nat) (s_self s_grammar s_grown s_joined s_p0 : Nat → Nat → Int32) : Option ((Int32) × (Nat → Nat → Int32) × (Nat → Nat → Int32) × (Nat → Nat → Int32)) :=
  some ((0), s_self, s_grown, s_joined)
set_option maxHeartbeats 4000000 in
set_option maxRecDepth 100000 in
theorem t_Gw_layOut_62 {p : Program} {l : Launch} {e : Env} {s : State} {m : MethodId} {args : Array Value} {below : List Frame} {meth : Method} {c : Code} {A : Nat → Prop} {D : va_G} {K : Nat → ClassId} (a_self a_grammar a_grown a_joined a_p0 : Nat → Nat) (n_grown : Nat) (n_joined : Nat) (n_p0 : Nat) (X : gx p s m args c b_Gw_layOut 4 R_Gw w_Gw_layOut D classes (tyK K) A) (hr : meth.sig.returnType = some .boolean) (hlk : meth.locks = false) (N : Nat) (r : Int32) (f_self f_grown f_joined : Nat → Nat → Int32) (s_self s_grammar s_grown s_joined s_p0 : Nat → Nat → Int32) (h : f_Gw_layOut_62 N n_grown n_joined n_p0 s_self s_grammar s_grown s_joined s_p0 = some (r, f_self, f_grown, f_joined)) : Gd p l e rm_Gw_layOut s m args below meth c 0 0 (MQ below (sq D classes (tyK K) (some (.int r)) [wd_Gw K a_self (a_grammar 0) (a_grown 0) (a_joined 0) f_self, wd_Gr K a_grammar s_grammar, wd_Sy K a_grown n_grown f_grown, wd_Sy K a_joined n_joined f_joined, wd_Sy K a_p0 n_p0 s_p0] A) args s 0 0 A) D classes A 4 62 [wd_Gw K a_self (a_grammar 0) (a_grown 0) (a_joined 0) s_self, wd_Gr K a_grammar s_grammar, wd_Sy K a_grown n_grown s_grown, wd_Sy K a_joined n_joined s_joined, wd_Sy K a_p0 n_p0 s_p0] [] [] := by
  unfold f_Gw_layOut_62 at h
  refine gd_iconst X (v := 0) d_Gw_layOut_62 (by decide) ?_
  cases h
  exact gd_zret X hr hlk (by decide) d_Gw_layOut_63
def f_Gw_layOut_71 (N : Nat) (n_grown : Nat) (n_joined : Nat) (n_p0 : Nat) (s_self s_grammar s_grown s_joined s_p0 : Nat → Nat → Int32) : Option ((Int32) × (Nat → Nat → Int32) × (Nat → Nat → Int32) × (Nat → Nat → Int32)) :=
  some ((0), s_self, s_grown, s_joined)
set_option maxHeartbeats 4000000 in
set_option maxRecDepth 100000 in
theorem t_Gw_layOut_71 {p : Program} {l : Launch} {e : Env} {s : State} {m : MethodId} {args : Array Value} {below : List Frame} {meth : Method} {c : Code} {A : Nat → Prop} {D : va_G} {K : Nat → ClassId} (a_self a_grammar a_grown a_joined a_p0 : Nat → Nat) (n_grown : Nat) (n_joined : Nat) (n_p0 : Nat) (X : gx p s m args c b_Gw_layOut 4 R_Gw w_Gw_layOut D classes (tyK K) A) (hr : meth.sig.returnType = some .boolean) (hlk : meth.locks = false) (N : Nat) (r : Int32) (f_self f_grown f_joined : Nat → Nat → Int32) (s_self s_grammar s_grown s_joined s_p0 : Nat → Nat → Int32) (h : f_Gw_layOut_71 N n_grown n_joined n_p0 s_self s_grammar s_grown s_joined s_p0 = some (r, f_self, f_grown, f_joined)) : Gd p l e rm_Gw_layOut s m args below meth c 0 0 (MQ below (sq D classes (tyK K) (some (.int r)) [wd_Gw K a_self (a_grammar 0) (a_grown 0) (a_joined 0) f_self, wd_Gr K a_grammar s_grammar, wd_Sy K a_grown n_grown f_grown, wd_Sy K a_joined n_joined f_joined, wd_Sy K a_p0 n_p0 s_p0] A) args s 0 0 A) D classes A 4 71 [wd_Gw K a_self (a_grammar 0) (a_grown 0) (a_joined 0) s_self, wd_Gr K a_grammar s_grammar, wd_Sy K a_grown n_grown s_grown, wd_Sy K a_joined n_joined s_joined, wd_Sy K a_p0 n_p0 s_p0] [] [] := by
  unfold f_Gw_layOut_71 at h
  refine gd_iconst X (v := 0) d_Gw_layOut_71 (by decide) ?_
  cases h
  exact gd_zret X hr hlk (by decide) d_Gw_layOut_72
def f_Gw_layOut_79 (N : Nat) (n_grown : Nat) (n_joined : Nat) (n_p0 : Nat) (s_self s_grammar s_grown s_joined s_p0 : Nat → Nat → Int32) : Option ((Int32) × (Nat → Nat → Int32) × (Nat → Nat → Int32) × (Nat → Nat → Int32)) :=
  some ((1), s_self, s_grown, s_joined)
set_option maxHeartbeats 4000000 in
set_option maxRecDepth 100000 in
theorem t_Gw_layOut_79 {p : Program} {l : Launch} {e : Env} {s : State} {m : MethodId} {args : Array Value} {below : List Frame} {meth : Method} {c : Code} {A : Nat → Prop} {D : va_G} {K : Nat → ClassId} (a_self a_grammar a_grown a_joined a_p0 : Nat → Nat) (n_grown : Nat) (n_joined : Nat) (n_p0 : Nat) (X : gx p s m args c b_Gw_layOut 4 R_Gw w_Gw_layOut D classes (tyK K) A) (hr : meth.sig.returnType = some .boolean) (hlk : meth.locks = false) (N : Nat) (r : Int32) (f_self f_grown f_joined : Nat → Nat → Int32) (s_self s_grammar s_grown s_joined s_p0 : Nat → Nat → Int32) (h : f_Gw_layOut_79 N n_grown n_joined n_p0 s_self s_grammar s_grown s_joined s_p0 = some (r, f_self, f_grown, f_joined)) : Gd p l e rm_Gw_layOut s m args below meth c 0 0 (MQ below (sq D classes (tyK K) (some (.int r)) [wd_Gw K a_self (a_grammar 0) (a_grown 0) (a_joined 0) f_self, wd_Gr K a_grammar s_grammar, wd_Sy K a_grown n_grown f_grown, wd_Sy K a_joined n_joined f_joined, wd_Sy K a_p0 n_p0 s_p0] A) args s 0 0 A) D classes A 4 79 [wd_Gw K a_self (a_grammar 0) (a_grown 0) (a_joined 0) s_self, wd_Gr K a_grammar s_grammar, wd_Sy K a_grown n_grown s_grown, wd_Sy K a_joined n_joined s_joined, wd_Sy K a_p0 n_p0 s_p0] [] [] := by
  unfold f_Gw_layOut_79 at h
  refine gd_iconst X (v := 1) d_Gw_layOut_79 (by decide) ?_
  cases h
  exact gd_zret X hr hlk (by decide) d_Gw_layOut_80
def l_Gw_layOut_20 (N : Nat) (n_grown : Nat) (n_joined : Nat) (n_p0 : Nat) (s_grammar s_p0 : Nat → Nat → Int32) (kx62 : (Nat → Nat → Int32) → (Nat → Nat → Int32) → (Nat → Nat → Int32) → Option ((Int32) × (Nat → Nat → Int32) × (Nat → Nat → Int32) × (Nat → Nat → Int32))) (kx71 : (Nat → Nat → Int32) → (Nat → Nat → Int32) → (Nat → Nat → Int32) → Option ((Int32) × (Nat → Nat → Int32) × (Nat → Nat → Int32) × (Nat → Nat → Int32))) (kx79 : (Nat → Nat → Int32) → (Nat → Nat → Int32) → (Nat → Nat → Int32) → Option ((Int32) × (Nat → Nat → Int32) × (Nat → Nat → Int32) × (Nat → Nat → Int32))) : Nat → (Nat → Nat → Int32) → (Nat → Nat → Int32) → (Nat → Nat → Int32) → Int32 → Option ((Int32) × (Nat → Nat → Int32) × (Nat → Nat → Int32) × (Nat → Nat → Int32))
  | 0, _, _, _, _ => none
  | n + 1, s_self, s_grown, s_joined, v2 => f_Gw_layOut_20 N n_grown n_joined n_p0 (l_Gw_layOut_20 N n_grown n_joined n_p0 s_grammar s_p0 kx62 kx71 kx79 n) kx62 kx71 kx79 s_self s_grammar s_grown s_joined s_p0 v2
set_option maxHeartbeats 4000000 in
set_option maxRecDepth 100000 in
theorem tl_Gw_layOut_20 {p : Program} {l : Launch} {e : Env} {s : State} {m : MethodId} {args : Array Value} {below : List Frame} {meth : Method} {c : Code} {A : Nat → Prop} {D : va_G} {K : Nat → ClassId} (a_self a_grammar a_grown a_joined a_p0 : Nat → Nat) (n_grown : Nat) (n_joined : Nat) (n_p0 : Nat) (X : gx p s m args c b_Gw_layOut 4 R_Gw w_Gw_layOut D classes (tyK K) A) (hr : meth.sig.returnType = some .boolean) (hlk : meth.locks = false) (N : Nat) (r : Int32) (f_self f_grown f_joined : Nat → Nat → Int32) (s_grammar s_p0 : Nat → Nat → Int32) (kx62 : (Nat → Nat → Int32) → (Nat → Nat → Int32) → (Nat → Nat → Int32) → Option ((Int32) × (Nat → Nat → Int32) × (Nat → Nat → Int32) × (Nat → Nat → Int32))) (hkx62 : ∀ (s_self s_grown s_joined : Nat → Nat → Int32), kx62 s_self s_grown s_joined = some (r, f_self, f_grown, f_joined) → Gd p l e rm_Gw_layOut s m args below meth c 0 0 (MQ below (sq D classes (tyK K) (some (.int r)) [wd_Gw K a_self (a_grammar 0) (a_grown 0) (a_joined 0) f_self, wd_Gr K a_grammar s_grammar, wd_Sy K a_grown n_grown f_grown, wd_Sy K a_joined n_joined f_joined, wd_Sy K a_p0 n_p0 s_p0] A) args s 0 0 A) D classes A 4 62 [wd_Gw K a_self (a_grammar 0) (a_grown 0) (a_joined 0) s_self, wd_Gr K a_grammar s_grammar, wd_Sy K a_grown n_grown s_grown, wd_Sy K a_joined n_joined s_joined, wd_Sy K a_p0 n_p0 s_p0] [] []) (kx71 : (Nat → Nat → Int32) → (Nat → Nat → Int32) → (Nat → Nat → Int32) → Option ((Int32) × (Nat → Nat → Int32) × (Nat → Nat → Int32) × (Nat → Nat → Int32))) (hkx71 : ∀ (s_self s_grown s_joined : Nat → Nat → Int32), kx71 s_self s_grown s_joined = some (r, f_self, f_grown, f_joined) → Gd p l e rm_Gw_layOut s m args below meth c 0 0 (MQ below (sq D classes (tyK K) (some (.int r)) [wd_Gw K a_self (a_grammar 0) (a_grown 0) (a_joined 0) f_self, wd_Gr K a_grammar s_grammar, wd_Sy K a_grown n_grown f_grown, wd_Sy K a_joined n_joined f_joined, wd_Sy K a_p0 n_p0 s_p0] A) args s 0 0 A) D classes A 4 71 [wd_Gw K a_self (a_grammar 0) (a_grown 0) (a_joined 0) s_self, wd_Gr K a_grammar s_grammar, wd_Sy K a_grown n_grown s_grown, wd_Sy K a_joined n_joined s_joined, wd_Sy K a_p0 n_p0 s_p0] [] []) (kx79 : (Nat → Nat → Int32) → (Nat → Nat → Int32) → (Nat → Nat → Int32) → Option ((Int32) × (Nat → Nat → Int32) × (Nat → Nat → Int32) × (Nat → Nat → Int32))) (hkx79 : ∀ (s_self s_grown s_joined : Nat → Nat → Int32), kx79 s_self s_grown s_joined = some (r, f_self, f_grown, f_joined) → Gd p l e rm_Gw_layOut s m args below meth c 0 0 (MQ below (sq D classes (tyK K) (some (.int r)) [wd_Gw K a_self (a_grammar 0) (a_grown 0) (a_joined 0) f_self, wd_Gr K a_grammar s_grammar, wd_Sy K a_grown n_grown f_grown, wd_Sy K a_joined n_joined f_joined, wd_Sy K a_p0 n_p0 s_p0] A) args s 0 0 A) D classes A 4 79 [wd_Gw K a_self (a_grammar 0) (a_grown 0) (a_joined 0) s_self, wd_Gr K a_grammar s_grammar, wd_Sy K a_grown n_grown s_grown, wd_Sy K a_joined n_joined s_joined, wd_Sy K a_p0 n_p0 s_p0] [] []) : ∀ (n : Nat) (s_self s_grown s_joined : Nat → Nat → Int32) (v2 : Int32), l_Gw_layOut_20 N n_grown n_joined n_p0 s_grammar s_p0 kx62 kx71 kx79 n s_self s_grown s_joined v2 = some (r, f_self, f_grown, f_joined) → Gd p l e rm_Gw_layOut s m args below meth c 0 0 (MQ below (sq D classes (tyK K) (some (.int r)) [wd_Gw K a_self (a_grammar 0) (a_grown 0) (a_joined 0) f_self, wd_Gr K a_grammar s_grammar, wd_Sy K a_grown n_grown f_grown, wd_Sy K a_joined n_joined f_joined, wd_Sy K a_p0 n_p0 s_p0] A) args s 0 0 A) D classes A 4 20 [wd_Gw K a_self (a_grammar 0) (a_grown 0) (a_joined 0) s_self, wd_Gr K a_grammar s_grammar, wd_Sy K a_grown n_grown s_grown, wd_Sy K a_joined n_joined s_joined, wd_Sy K a_p0 n_p0 s_p0] [(0, .ref (a_self 0)), (1, .ref (a_p0 0)), (2, .int v2)] [] := by
  intro n
  induction n with
  | zero => intro s_self s_grown s_joined v2 h; have h : (none : Option ((Int32) × (Nat → Nat → Int32) × (Nat → Nat → Int32) × (Nat → Nat → Int32))) = some _ := h; cases h
  | succ n ih =>
    intro s_self s_grown s_joined v2 h
    exact t_Gw_layOut_20 a_self a_grammar a_grown a_joined a_p0 n_grown n_joined n_p0 X hr hlk N r f_self f_grown f_joined s_self s_grammar s_grown s_joined s_p0 v2 (l_Gw_layOut_20 N n_grown n_joined n_p0 s_grammar s_p0 kx62 kx71 kx79 n) ih kx62 hkx62 kx71 hkx71 kx79 hkx79 h
def f_Gw_layOut_0 (N : Nat) (n_grown : Nat) (n_joined : Nat) (n_p0 : Nat) (s_self s_grammar s_grown s_joined s_p0 : Nat → Nat → Int32) : Option ((Int32) × (Nat → Nat → Int32) × (Nat → Nat → Int32) × (Nat → Nat → Int32)) :=
  bd2 (m_Sy_empty n_grown s_grown) fun r_1 s_grown_2 =>
  nm (st2 s_self 0 4 0) fun s_self_4 =>
  nm ((s_p0 0 1) - 1) fun v2_5 =>
  l_Gw_layOut_20 N n_grown n_joined n_p0 s_grammar s_p0 (fun s_self s_grown s_joined => f_Gw_layOut_62 N n_grown n_joined n_p0 s_self s_grammar s_grown s_joined s_p0) (fun s_self s_grown s_joined => f_Gw_layOut_71 N n_grown n_joined n_p0 s_self s_grammar s_grown s_joined s_p0) (fun s_self s_grown s_joined => f_Gw_layOut_79 N n_grown n_joined n_p0 s_self s_grammar s_grown s_joined s_p0) N s_self_4 s_grown_2 s_joined v2_5
set_option maxHeartbeats 4000000 in
set_option maxRecDepth 100000 in
theorem t_Gw_layOut_0 {p : Program} {l : Launch} {e : Env} {s : State} {m : MethodId} {args : Array Value} {below : List Frame} {meth : Method} {c : Code} {A : Nat → Prop} {D : va_G} {K : Nat → ClassId} (a_self a_grammar a_grown a_joined a_p0 : Nat → Nat) (n_grown : Nat) (n_joined : Nat) (n_p0 : Nat) (X : gx p s m args c b_Gw_layOut 4 R_Gw w_Gw_layOut D classes (tyK K) A) (hr : meth.sig.returnType = some .boolean) (hlk : meth.locks = false) (N : Nat) (r : Int32) (f_self f_grown f_joined : Nat → Nat → Int32) (s_self s_grammar s_grown s_joined s_p0 : Nat → Nat → Int32) (h : f_Gw_layOut_0 N n_grown n_joined n_p0 s_self s_grammar s_grown s_joined s_p0 = some (r, f_self, f_grown, f_joined)) : Gd p l e rm_Gw_layOut s m args below meth c 0 0 (MQ below (sq D classes (tyK K) (some (.int r)) [wd_Gw K a_self (a_grammar 0) (a_grown 0) (a_joined 0) f_self, wd_Gr K a_grammar s_grammar, wd_Sy K a_grown n_grown f_grown, wd_Sy K a_joined n_joined f_joined, wd_Sy K a_p0 n_p0 s_p0] A) args s 0 0 A) D classes A 4 0 [wd_Gw K a_self (a_grammar 0) (a_grown 0) (a_joined 0) s_self, wd_Gr K a_grammar s_grammar, wd_Sy K a_grown n_grown s_grown, wd_Sy K a_joined n_joined s_joined, wd_Sy K a_p0 n_p0 s_p0] [(0, .ref (a_self 0)), (1, .ref (a_p0 0))] [] := by
  unfold f_Gw_layOut_0 at h
  refine gd_aload_n X d_Gw_layOut_0 0 rfl ?_
  refine gd_get X (ci := 4) (C := R_Gw) (T := F_Gw) (N := 7) (v := .ref (a_grown 0)) 0 0 rfl rfl rfl (in_Gw _) 2 (by decide) (List.mem_cons_of_mem _ fl_Gw_24) rfl rfl d_Gw_layOut_1 ?_
  obtain ⟨r_1, s_grown_2, hc_3, h⟩ := bd2_e h
  refine gd_cI X (gd_V X (As := []) (rest := []) (c_Sy_empty l D K a_grown n_grown s_grown r_1 s_grown_2 hc_3) 0 (gi_V ml_Gw_72 u_Sy_empty) rfl ⟨rfl, rfl⟩ (by decide +kernel) ⟨by decide, by decide⟩ (ci := 0) rfl rfl rfl rfl rfl rfl (Nat.le_of_ble_eq_true rfl) ⟨Nat.zero_le _, Nat.zero_le _⟩ d_Gw_layOut_4) (w2 := [wd_Gw K a_self (a_grammar 0) (a_grown 0) (a_joined 0) s_self, wd_Gr K a_grammar s_grammar, wd_Sy K a_grown n_grown s_grown_2, wd_Sy K a_joined n_joined s_joined, wd_Sy K a_p0 n_p0 s_p0]) [2] [0, 1, 3, 4] rfl rfl rfl rfl ⟨rfl, rfl⟩ rfl ?_
  refine gd_pop X d_Gw_layOut_7 rfl ?_
  refine gd_aload_n X d_Gw_layOut_8 0 rfl ?_
  refine gd_iconst X (v := 0) d_Gw_layOut_9 (by decide) ?_
  obtain ⟨s_self_4, es_self_4, h⟩ := nm_e' h
  refine gd_put X (ci := 4) (C := R_Gw) (T := F_Gw) (N := 7) (ty := .int) (w' := [wd_Gw K a_self (a_grammar 0) (a_grown 0) (a_joined 0) s_self_4, wd_Gr K a_grammar s_grammar, wd_Sy K a_grown n_grown s_grown_2, wd_Sy K a_joined n_joined s_joined, wd_Sy K a_p0 n_p0 s_p0]) 0 0 rfl rfl rfl (in_Gw _) t_Gw t_Gw_ok n_Gw 4 (by decide) (List.mem_cons_of_mem _ fl_Gw_76) rfl rfl (by decide +kernel) rfl rfl (Nat.le_of_ble_eq_true rfl) d_Gw_layOut_10 (by rw [es_self_4]; rfl) ?_
  refine gd_aload_n X d_Gw_layOut_13 1 rfl ?_
  refine gd_get X (ci := 0) (C := R_Sy) (T := F_Sy) (N := 2) (v := .int (s_p0 0 1)) 4 0 rfl rfl rfl (in_Sy _) 1 (by decide) (List.mem_cons_of_mem _ fl_Gw_46) rfl rfl d_Gw_layOut_14 ?_
  refine gd_iconst X (v := 1) d_Gw_layOut_17 (by decide) ?_
  refine gd_isub X d_Gw_layOut_18 ?_
  obtain ⟨v2_5, ev2_5, h⟩ := nm_e' h
  refine gd_topi ev2_5 ?_
  refine gd_istore_n X (lv' := [(2, .int v2_5), (0, .ref (a_self 0)), (1, .ref (a_p0 0))]) d_Gw_layOut_19 rfl (by decide) rfl ?_
  refine gd_loc (lv' := [(0, .ref (a_self 0)), (1, .ref (a_p0 0)), (2, .int v2_5)]) [1, 2, 0] rfl ?_
  exact tl_Gw_layOut_20 a_self a_grammar a_grown a_joined a_p0 n_grown n_joined n_p0 X hr hlk N r f_self f_grown f_joined s_grammar s_p0 (fun s_self s_grown s_joined => f_Gw_layOut_62 N n_grown n_joined n_p0 s_self s_grammar s_grown s_joined s_p0) (fun s_self s_grown s_joined h => t_Gw_layOut_62 a_self a_grammar a_grown a_joined a_p0 n_grown n_joined n_p0 X hr hlk N r f_self f_grown f_joined s_self s_grammar s_grown s_joined s_p0 h) (fun s_self s_grown s_joined => f_Gw_layOut_71 N n_grown n_joined n_p0 s_self s_grammar s_grown s_joined s_p0) (fun s_self s_grown s_joined h => t_Gw_layOut_71 a_self a_grammar a_grown a_joined a_p0 n_grown n_joined n_p0 X hr hlk N r f_self f_grown f_joined s_self s_grammar s_grown s_joined s_p0 h) (fun s_self s_grown s_joined => f_Gw_layOut_79 N n_grown n_joined n_p0 s_self s_grammar s_grown s_joined s_p0) (fun s_self s_grown s_joined h => t_Gw_layOut_79 a_self a_grammar a_grown a_joined a_p0 n_grown n_joined n_p0 X hr hlk N r f_self f_grown f_joined s_self s_grammar s_grown s_joined s_p0 h) N s_self_4 s_grown_2 s_joined v2_5 h
def m_Gw_layOut (N : Nat) (n_grown : Nat) (n_joined : Nat) (n_p0 : Nat) (s_self s_grammar s_grown s_joined s_p0 : Nat → Nat → Int32) : Option ((Int32) × (Nat → Nat → Int32) × (Nat → Nat → Int32) × (Nat → Nat → Int32)) := f_Gw_layOut_0 N n_grown n_joined n_p0 s_self s_grammar s_grown s_joined s_p0
set_option maxHeartbeats 4000000 in
set_option maxRecDepth 100000 in
theorem c_Gw_layOut (l : Launch) (D : va_G) (K : Nat → ClassId) (a_self a_grammar a_grown a_joined a_p0 : Nat → Nat) (n_grown : Nat) (n_joined : Nat) (n_p0 : Nat) (N : Nat) (s_self s_grammar s_grown s_joined s_p0 : Nat → Nat → Int32) (r : Int32) (f_self f_grown f_joined : Nat → Nat → Int32) (h : m_Gw_layOut N n_grown n_joined n_p0 s_self s_grammar s_grown s_joined s_p0 = some (r, f_self, f_grown, f_joined)) : SMet l y_Gw_layOut w_Gw_layOut rm_Gw_layOut D classes (tyK K) [.ref (a_self 0), .ref (a_p0 0)] (some (.int r)) [wd_Gw K a_self (a_grammar 0) (a_grown 0) (a_joined 0) s_self, wd_Gr K a_grammar s_grammar, wd_Sy K a_grown n_grown s_grown, wd_Sy K a_joined n_joined s_joined, wd_Sy K a_p0 n_p0 s_p0] [wd_Gw K a_self (a_grammar 0) (a_grown 0) (a_joined 0) f_self, wd_Gr K a_grammar s_grammar, wd_Sy K a_grown n_grown f_grown, wd_Sy K a_joined n_joined f_joined, wd_Sy K a_p0 n_p0 s_p0] := by
  refine sm_of R_Gw (by decide) rfl rfl (Nat.le_of_ble_eq_true rfl) ?_
  intro p e s m below meth c A X hr hlk
  refine gd_loc (lv' := [(0, .ref (a_self 0)), (1, .ref (a_p0 0))]) [0, 1] rfl ?_
  exact t_Gw_layOut_0 a_self a_grammar a_grown a_joined a_p0 n_grown n_joined n_p0 X hr hlk N r f_self f_grown f_joined s_self s_grammar s_grown s_joined s_p0 h
abbrev b_Gw_awaitParts : ByteArray := prog_4_method_4_code
def y_Gw_awaitParts : MethodName := ⟨R_Gw, "awaitParts", "(II)I"⟩
def w_Gw_awaitParts : List Cond := .code y_Gw_awaitParts b_Gw_awaitParts 5 (some .int) :: TB
theorem k_Gw_awaitParts : Cond.code y_Gw_awaitParts b_Gw_awaitParts 5 (some .int) ∈ TB := tb_of 612 (by decide +kernel) (by decide +kernel)
theorem d_Gw_awaitParts_0 : decode b_Gw_awaitParts 0 = .ok (.iload_n 2, 1) := by decide +kernel
theorem d_Gw_awaitParts_1 : decode b_Gw_awaitParts 1 = .ok (.istore_n 3, 1) := by decide +kernel
theorem d_Gw_awaitParts_2 : decode b_Gw_awaitParts 2 = .ok (.aload_n 0, 1) := by decide +kernel
theorem d_Gw_awaitParts_3 : decode b_Gw_awaitParts 3 = .ok (.getfield 9, 3) := by decide +kernel
theorem d_Gw_awaitParts_6 : decode b_Gw_awaitParts 6 = .ok (.iload_n 1, 1) := by decide +kernel
theorem d_Gw_awaitParts_7 : decode b_Gw_awaitParts 7 = .ok (.invokevirtual 66, 3) := by decide +kernel
theorem d_Gw_awaitParts_10 : decode b_Gw_awaitParts 10 = .ok (.iconst 1, 1) := by decide +kernel
theorem d_Gw_awaitParts_11 : decode b_Gw_awaitParts 11 = .ok (.isub, 1) := by decide +kernel
theorem d_Gw_awaitParts_12 : decode b_Gw_awaitParts 12 = .ok (.istore 4, 2) := by decide +kernel
theorem d_Gw_awaitParts_14 : decode b_Gw_awaitParts 14 = .ok (.iload 4, 2) := by decide +kernel
theorem d_Gw_awaitParts_16 : decode b_Gw_awaitParts 16 = .ok (.ifCond .lt 35, 3) := by decide +kernel
theorem d_Gw_awaitParts_19 : decode b_Gw_awaitParts 19 = .ok (.iload_n 3, 1) := by decide +kernel
theorem d_Gw_awaitParts_20 : decode b_Gw_awaitParts 20 = .ok (.sipush 601, 3) := by decide +kernel
theorem d_Gw_awaitParts_23 : decode b_Gw_awaitParts 23 = .ok (.if_icmp .ge 28, 3) := by decide +kernel
theorem d_Gw_awaitParts_26 : decode b_Gw_awaitParts 26 = .ok (.aload_n 0, 1) := by decide +kernel
theorem d_Gw_awaitParts_27 : decode b_Gw_awaitParts 27 = .ok (.getfield 15, 3) := by decide +kernel
theorem d_Gw_awaitParts_30 : decode b_Gw_awaitParts 30 = .ok (.iload_n 3, 1) := by decide +kernel
theorem d_Gw_awaitParts_31 : decode b_Gw_awaitParts 31 = .ok (.aload_n 0, 1) := by decide +kernel
theorem d_Gw_awaitParts_32 : decode b_Gw_awaitParts 32 = .ok (.getfield 9, 3) := by decide +kernel
theorem d_Gw_awaitParts_35 : decode b_Gw_awaitParts 35 = .ok (.iload_n 1, 1) := by decide +kernel
theorem d_Gw_awaitParts_36 : decode b_Gw_awaitParts 36 = .ok (.iload 4, 2) := by decide +kernel
theorem d_Gw_awaitParts_38 : decode b_Gw_awaitParts 38 = .ok (.invokevirtual 69, 3) := by decide +kernel
theorem d_Gw_awaitParts_41 : decode b_Gw_awaitParts 41 = .ok (.iastore, 1) := by decide +kernel
theorem d_Gw_awaitParts_42 : decode b_Gw_awaitParts 42 = .ok (.iinc 3 1, 3) := by decide +kernel
theorem d_Gw_awaitParts_45 : decode b_Gw_awaitParts 45 = .ok (.iinc 4 (-1), 3) := by decide +kernel
theorem d_Gw_awaitParts_48 : decode b_Gw_awaitParts 48 = .ok (.goto (-34), 3) := by decide +kernel
theorem d_Gw_awaitParts_51 : decode b_Gw_awaitParts 51 = .ok (.iload_n 3, 1) := by decide +kernel
theorem d_Gw_awaitParts_52 : decode b_Gw_awaitParts 52 = .ok (.ireturn, 1) := by decide +kernel
theorem fl_Gw_15 : Cond.fieldLink R_Gw 15 "RuleTrees$Grower" "awaited" "[I" ∈ TB := tb_of 223 (by decide +kernel) (by decide +kernel)
theorem ml_Gw_69 : Cond.methodLink R_Gw 69 ⟨"RuleTrees$Grammar", "sortOfSlot", "(II)I"⟩ ∈ TB := tb_of 614 (by decide +kernel) (by decide +kernel)
abbrev rm_Gw_awaitParts : Room := { frames := 2, cells := 0, slots := 0, locals := 43 }
def f_Gw_awaitParts_14 (N : Nat) (kb : (Nat → Nat → Int32) → Int32 → Int32 → Option ((Int32) × (Nat → Nat → Int32))) (kx51 : (Nat → Nat → Int32) → Int32 → Option ((Int32) × (Nat → Nat → Int32))) (s_self s_grammar : Nat → Nat → Int32) (v1 v3 v4 : Int32) : Option ((Int32) × (Nat → Nat → Int32)) :=
  if v4 < 0 then
    kx51 s_self v3
  else
    if 601 ≤ v3 then
      kx51 s_self v3
    else
      bd1 (m_Gr_sortOfSlot s_grammar v1 v4) fun r_3 =>
      ck v3 601 <| nm (st2 s_self 1 (Int32.toNatClampNeg v3) r_3) fun s_self_6 =>
      nm (v3 + 1) fun v3_7 =>
      nm (v4 + (-1)) fun v4_8 =>
      kb s_self_6 v3_7 v4_8
set_option maxHeartbeats 4000000 in
set_option maxRecDepth 100000 in
theorem t_Gw_awaitParts_14 {p : Program} {l : Launch} {e : Env} {s : State} {m : MethodId} {args : Array Value} {below : List Frame} {meth : Method} {c : Code} {A : Nat → Prop} {D : va_G} {K : Nat → ClassId} (a_self a_grammar a_grown a_joined : Nat → Nat) (X : gx p s m args c b_Gw_awaitParts 5 R_Gw w_Gw_awaitParts D classes (tyK K) A) (hr : meth.sig.returnType = some .int) (hlk : meth.locks = false) (N : Nat) (r : Int32) (f_self : Nat → Nat → Int32) (s_self s_grammar : Nat → Nat → Int32) (v1 v3 v4 : Int32) (kb : (Nat → Nat → Int32) → Int32 → Int32 → Option ((Int32) × (Nat → Nat → Int32))) (hkb : ∀ (s_self : Nat → Nat → Int32) (v3 v4 : Int32), kb s_self v3 v4 = some (r, f_self) → Gd p l e rm_Gw_awaitParts s m args below meth c 0 0 (MQ below (sq D classes (tyK K) (some (.int r)) [wd_Gw K a_self (a_grammar 0) (a_grown 0) (a_joined 0) f_self, wd_Gr K a_grammar s_grammar] A) args s 0 0 A) D classes A 5 14 [wd_Gw K a_self (a_grammar 0) (a_grown 0) (a_joined 0) s_self, wd_Gr K a_grammar s_grammar] [(0, .ref (a_self 0)), (1, .int v1), (3, .int v3), (4, .int v4)] []) (kx51 : (Nat → Nat → Int32) → Int32 → Option ((Int32) × (Nat → Nat → Int32))) (hkx51 : ∀ (s_self : Nat → Nat → Int32) (v3 : Int32), kx51 s_self v3 = some (r, f_self) → Gd p l e rm_Gw_awaitParts s m args below meth c 0 0 (MQ below (sq D classes (tyK K) (some (.int r)) [wd_Gw K a_self (a_grammar 0) (a_grown 0) (a_joined 0) f_self, wd_Gr K a_grammar s_grammar] A) args s 0 0 A) D classes A 5 51 [wd_Gw K a_self (a_grammar 0) (a_grown 0) (a_joined 0) s_self, wd_Gr K a_grammar s_grammar] [(3, .int v3)] []) (h : f_Gw_awaitParts_14 N kb kx51 s_self s_grammar v1 v3 v4 = some (r, f_self)) : Gd p l e rm_Gw_awaitParts s m args below meth c 0 0 (MQ below (sq D classes (tyK K) (some (.int r)) [wd_Gw K a_self (a_grammar 0) (a_grown 0) (a_joined 0) f_self, wd_Gr K a_grammar s_grammar] A) args s 0 0 A) D classes A 5 14 [wd_Gw K a_self (a_grammar 0) (a_grown 0) (a_joined 0) s_self, wd_Gr K a_grammar s_grammar] [(0, .ref (a_self 0)), (1, .int v1), (3, .int v3), (4, .int v4)] [] := by
  unfold f_Gw_awaitParts_14 at h
  refine gd_iload X d_Gw_awaitParts_14 3 rfl ?_
  refine gd_if_lt X (tgt := 51) d_Gw_awaitParts_16 (by decide) (fun c_1 => ?_) (fun c_1 => ?_)
  · replace h := it_p c_1 h
    refine gd_loc (lv' := [(3, .int v3)]) [2] rfl ?_
    exact hkx51 s_self v3 h
  · replace h := it_n c_1 h
    refine gd_iload_n X d_Gw_awaitParts_19 2 rfl ?_
    refine gd_sipush X (v := 601) d_Gw_awaitParts_20 (by decide) ?_
    refine gd_icmp_ge X (tgt := 51) d_Gw_awaitParts_23 (by decide) (fun c_2 => ?_) (fun c_2 => ?_)
    · replace h := it_p c_2 h
      refine gd_loc (lv' := [(3, .int v3)]) [2] rfl ?_
      exact hkx51 s_self v3 h
    · replace h := it_n c_2 h
      refine gd_aload_n X d_Gw_awaitParts_26 0 rfl ?_
      refine gd_get X (ci := 4) (C := R_Gw) (T := F_Gw) (N := 7) (v := .ref (a_self 1)) 0 0 rfl rfl rfl (in_Gw _) 1 (by decide) (List.mem_cons_of_mem _ fl_Gw_15) rfl rfl d_Gw_awaitParts_27 ?_
      refine gd_iload_n X d_Gw_awaitParts_30 2 rfl ?_
      refine gd_aload_n X d_Gw_awaitParts_31 0 rfl ?_
      refine gd_get X (ci := 4) (C := R_Gw) (T := F_Gw) (N := 7) (v := .ref (a_grammar 0)) 0 0 rfl rfl rfl (in_Gw _) 0 (by decide) (List.mem_cons_of_mem _ fl_Gw_9) rfl rfl d_Gw_awaitParts_32 ?_
      refine gd_iload_n X d_Gw_awaitParts_35 1 rfl ?_
      refine gd_iload X d_Gw_awaitParts_36 3 rfl ?_
      obtain ⟨r_3, hc_4, h⟩ := bd1_e h
      refine gd_pI X (gd_V X (As := [.int v1, .int v4]) (rest := [.int v3, .ref (a_self 1)]) (c_Gr_sortOfSlot l D K a_grammar s_grammar v1 v4 r_3 hc_4) 2 (gi_V ml_Gw_69 u_Gr_sortOfSlot) rfl ⟨rfl, rfl⟩ (by decide +kernel) ⟨by decide, by decide⟩ (ci := 1) rfl rfl rfl rfl rfl rfl (Nat.le_of_ble_eq_true rfl) ⟨Nat.zero_le _, Nat.zero_le _⟩ d_Gw_awaitParts_38) [1] rfl rfl ?_
      obtain ⟨hi_5, h⟩ := ck_e h
      obtain ⟨s_self_6, es_self_6, h⟩ := nm_e' h
      refine gd_iast X (w' := [wd_Gw K a_self (a_grammar 0) (a_grown 0) (a_joined 0) s_self_6, wd_Gr K a_grammar s_grammar]) 0 1 0 rfl rfl rfl hi_5 d_Gw_awaitParts_41 (by rw [es_self_6]; rfl) ?_
      obtain ⟨v3_7, ev3_7, h⟩ := nm_e' h
      refine gd_iinc X (v := v3_7) (lv' := [(3, .int v3_7), (0, .ref (a_self 0)), (1, .int v1), (4, .int v4)]) d_Gw_awaitParts_42 (k := 2) rfl (by rw [ev3_7]; rfl) (by decide) rfl ?_
      obtain ⟨v4_8, ev4_8, h⟩ := nm_e' h
      refine gd_iinc X (v := v4_8) (lv' := [(4, .int v4_8), (3, .int v3_7), (0, .ref (a_self 0)), (1, .int v1)]) d_Gw_awaitParts_45 (k := 3) rfl (by rw [ev4_8, show Int32.ofInt (-1) = (-1) from by decide]) (by decide) rfl ?_
      refine gd_goto X (tgt := 14) d_Gw_awaitParts_48 (by decide) ?_
      refine gd_loc (lv' := [(0, .ref (a_self 0)), (1, .int v1), (3, .int v3_7), (4, .int v4_8)]) [2, 3, 1, 0] rfl ?_
      exact hkb s_self_6 v3_7 v4_8 h
def f_Gw_awaitParts_51 (N : Nat) (s_self s_grammar : Nat → Nat → Int32) (v3 : Int32) : Option ((Int32) × (Nat → Nat → Int32)) :=
  some ((v3), s_self)
set_option maxHeartbeats 4000000 in
set_option maxRecDepth 100000 in
theorem t_Gw_awaitParts_51 {p : Program} {l : Launch} {e : Env} {s : State} {m : MethodId} {args : Array Value} {below : List Frame} {meth : Method} {c : Code} {A : Nat → Prop} {D : va_G} {K : Nat → ClassId} (a_self a_grammar a_grown a_joined : Nat → Nat) (X : gx p s m args c b_Gw_awaitParts 5 R_Gw w_Gw_awaitParts D classes (tyK K) A) (hr : meth.sig.returnType = some .int) (hlk : meth.locks = false) (N : Nat) (r : Int32) (f_self : Nat → Nat → Int32) (s_self s_grammar : Nat → Nat → Int32) (v3 : Int32) (h : f_Gw_awaitParts_51 N s_self s_grammar v3 = some (r, f_self)) : Gd p l e rm_Gw_awaitParts s m args below meth c 0 0 (MQ below (sq D classes (tyK K) (some (.int r)) [wd_Gw K a_self (a_grammar 0) (a_grown 0) (a_joined 0) f_self, wd_Gr K a_grammar s_grammar] A) args s 0 0 A) D classes A 5 51 [wd_Gw K a_self (a_grammar 0) (a_grown 0) (a_joined 0) s_self, wd_Gr K a_grammar s_grammar] [(3, .int v3)] [] := by
  unfold f_Gw_awaitParts_51 at h
  refine gd_iload_n X d_Gw_awaitParts_51 0 rfl ?_
  cases h
  exact gd_iret X hr hlk d_Gw_awaitParts_52
def l_Gw_awaitParts_14 (N : Nat) (s_grammar : Nat → Nat → Int32) (v1 : Int32) (kx51 : (Nat → Nat → Int32) → Int32 → Option ((Int32) × (Nat → Nat → Int32))) : Nat → (Nat → Nat → Int32) → Int32 → Int32 → Option ((Int32) × (Nat → Nat → Int32))
  | 0, _, _, _ => none
  | n + 1, s_self, v3, v4 => f_Gw_awaitParts_14 N (l_Gw_awaitParts_14 N s_grammar v1 kx51 n) kx51 s_self s_grammar v1 v3 v4
set_option maxHeartbeats 4000000 in
set_option maxRecDepth 100000 in
theorem tl_Gw_awaitParts_14 {p : Program} {l : Launch} {e : Env} {s : State} {m : MethodId} {args : Array Value} {below : List Frame} {meth : Method} {c : Code} {A : Nat → Prop} {D : va_G} {K : Nat → ClassId} (a_self a_grammar a_grown a_joined : Nat → Nat) (X : gx p s m args c b_Gw_awaitParts 5 R_Gw w_Gw_awaitParts D classes (tyK K) A) (hr : meth.sig.returnType = some .int) (hlk : meth.locks = false) (N : Nat) (r : Int32) (f_self : Nat → Nat → Int32) (s_grammar : Nat → Nat → Int32) (v1 : Int32) (kx51 : (Nat → Nat → Int32) → Int32 → Option ((Int32) × (Nat → Nat → Int32))) (hkx51 : ∀ (s_self : Nat → Nat → Int32) (v3 : Int32), kx51 s_self v3 = some (r, f_self) → Gd p l e rm_Gw_awaitParts s m args below meth c 0 0 (MQ below (sq D classes (tyK K) (some (.int r)) [wd_Gw K a_self (a_grammar 0) (a_grown 0) (a_joined 0) f_self, wd_Gr K a_grammar s_grammar] A) args s 0 0 A) D classes A 5 51 [wd_Gw K a_self (a_grammar 0) (a_grown 0) (a_joined 0) s_self, wd_Gr K a_grammar s_grammar] [(3, .int v3)] []) : ∀ (n : Nat) (s_self : Nat → Nat → Int32) (v3 v4 : Int32), l_Gw_awaitParts_14 N s_grammar v1 kx51 n s_self v3 v4 = some (r, f_self) → Gd p l e rm_Gw_awaitParts s m args below meth c 0 0 (MQ below (sq D classes (tyK K) (some (.int r)) [wd_Gw K a_self (a_grammar 0) (a_grown 0) (a_joined 0) f_self, wd_Gr K a_grammar s_grammar] A) args s 0 0 A) D classes A 5 14 [wd_Gw K a_self (a_grammar 0) (a_grown 0) (a_joined 0) s_self, wd_Gr K a_grammar s_grammar] [(0, .ref (a_self 0)), (1, .int v1), (3, .int v3), (4, .int v4)] [] := by
  intro n
  induction n with
  | zero => intro s_self v3 v4 h; have h : (none : Option ((Int32) × (Nat → Nat → Int32))) = some _ := h; cases h
  | succ n ih =>
    intro s_self v3 v4 h
    exact t_Gw_awaitParts_14 a_self a_grammar a_grown a_joined X hr hlk N r f_self s_self s_grammar v1 v3 v4 (l_Gw_awaitParts_14 N s_grammar v1 kx51 n) ih kx51 hkx51 h
def f_Gw_awaitParts_0 (N : Nat) (s_self s_grammar : Nat → Nat → Int32) (v1 v2 : Int32) : Option ((Int32) × (Nat → Nat → Int32)) :=
  bd1 (m_Gr_slotsOfCode s_grammar v1) fun r_1 =>
  nm (r_1 - 1) fun v4_3 =>
  l_Gw_awaitParts_14 N s_grammar v1 (fun s_self v3 => f_Gw_awaitParts_51 N s_self s_grammar v3) N s_self v2 v4_3
set_option maxHeartbeats 4000000 in
set_option maxRecDepth 100000 in
theorem t_Gw_awaitParts_0 {p : Program} {l : Launch} {e : Env} {s : State} {m : MethodId} {args : Array Value} {below : List Frame} {meth : Method} {c : Code} {A : Nat → Prop} {D : va_G} {K : Nat → ClassId} (a_self a_grammar a_grown a_joined : Nat → Nat) (X : gx p s m args c b_Gw_awaitParts 5 R_Gw w_Gw_awaitParts D classes (tyK K) A) (hr : meth.sig.returnType = some .int) (hlk : meth.locks = false) (N : Nat) (r : Int32) (f_self : Nat → Nat → Int32) (s_self s_grammar : Nat → Nat → Int32) (v1 v2 : Int32) (h : f_Gw_awaitParts_0 N s_self s_grammar v1 v2 = some (r, f_self)) : Gd p l e rm_Gw_awaitParts s m args below meth c 0 0 (MQ below (sq D classes (tyK K) (some (.int r)) [wd_Gw K a_self (a_grammar 0) (a_grown 0) (a_joined 0) f_self, wd_Gr K a_grammar s_grammar] A) args s 0 0 A) D classes A 5 0 [wd_Gw K a_self (a_grammar 0) (a_grown 0) (a_joined 0) s_self, wd_Gr K a_grammar s_grammar] [(0, .ref (a_self 0)), (1, .int v1), (2, .int v2)] [] := by
  unfold f_Gw_awaitParts_0 at h
  refine gd_iload_n X d_Gw_awaitParts_0 2 rfl ?_
  refine gd_istore_n X (lv' := [(3, .int v2), (0, .ref (a_self 0)), (1, .int v1), (2, .int v2)]) d_Gw_awaitParts_1 rfl (by decide) rfl ?_
  refine gd_aload_n X d_Gw_awaitParts_2 1 rfl ?_
  refine gd_get X (ci := 4) (C := R_Gw) (T := F_Gw) (N := 7) (v := .ref (a_grammar 0)) 0 0 rfl rfl rfl (in_Gw _) 0 (by decide) (List.mem_cons_of_mem _ fl_Gw_9) rfl rfl d_Gw_awaitParts_3 ?_
  refine gd_iload_n X d_Gw_awaitParts_6 2 rfl ?_
  obtain ⟨r_1, hc_2, h⟩ := bd1_e h
  refine gd_pI X (gd_V X (As := [.int v1]) (rest := []) (c_Gr_slotsOfCode l D K a_grammar s_grammar v1 r_1 hc_2) 1 (gi_V ml_Gw_66 u_Gr_slotsOfCode) rfl ⟨rfl, rfl⟩ (by decide +kernel) ⟨by decide, by decide⟩ (ci := 1) rfl rfl rfl rfl rfl rfl (Nat.le_of_ble_eq_true rfl) ⟨Nat.zero_le _, Nat.zero_le _⟩ d_Gw_awaitParts_7) [1] rfl rfl ?_
  refine gd_iconst X (v := 1) d_Gw_awaitParts_10 (by decide) ?_
  refine gd_isub X d_Gw_awaitParts_11 ?_
  obtain ⟨v4_3, ev4_3, h⟩ := nm_e' h
  refine gd_topi ev4_3 ?_
  refine gd_istore X (lv' := [(4, .int v4_3), (3, .int v2), (0, .ref (a_self 0)), (1, .int v1), (2, .int v2)]) d_Gw_awaitParts_12 (by decide) rfl ?_
  refine gd_loc (lv' := [(0, .ref (a_self 0)), (1, .int v1), (3, .int v2), (4, .int v4_3)]) [2, 3, 1, 0] rfl ?_
  exact tl_Gw_awaitParts_14 a_self a_grammar a_grown a_joined X hr hlk N r f_self s_grammar v1 (fun s_self v3 => f_Gw_awaitParts_51 N s_self s_grammar v3) (fun s_self v3 h => t_Gw_awaitParts_51 a_self a_grammar a_grown a_joined X hr hlk N r f_self s_self s_grammar v3 h) N s_self v2 v4_3 h
def m_Gw_awaitParts (N : Nat) (s_self s_grammar : Nat → Nat → Int32) (v1 v2 : Int32) : Option ((Int32) × (Nat → Nat → Int32)) := f_Gw_awaitParts_0 N s_self s_grammar v1 v2
set_option maxHeartbeats 4000000 in
set_option maxRecDepth 100000 in
theorem c_Gw_awaitParts (l : Launch) (D : va_G) (K : Nat → ClassId) (a_self a_grammar a_grown a_joined : Nat → Nat) (N : Nat) (s_self s_grammar : Nat → Nat → Int32) (v1 v2 : Int32) (r : Int32) (f_self : Nat → Nat → Int32) (h : m_Gw_awaitParts N s_self s_grammar v1 v2 = some (r, f_self)) : SMet l y_Gw_awaitParts w_Gw_awaitParts rm_Gw_awaitParts D classes (tyK K) [.ref (a_self 0), .int v1, .int v2] (some (.int r)) [wd_Gw K a_self (a_grammar 0) (a_grown 0) (a_joined 0) s_self, wd_Gr K a_grammar s_grammar] [wd_Gw K a_self (a_grammar 0) (a_grown 0) (a_joined 0) f_self, wd_Gr K a_grammar s_grammar] := by
  refine sm_of R_Gw (by decide) rfl rfl (Nat.le_of_ble_eq_true rfl) ?_
  intro p e s m below meth c A X hr hlk
  refine gd_loc (lv' := [(0, .ref (a_self 0)), (1, .int v1), (2, .int v2)]) [0, 1, 2] rfl ?_
  exact t_Gw_awaitParts_0 a_self a_grammar a_grown a_joined X hr hlk N r f_self s_self s_grammar v1 v2 h
