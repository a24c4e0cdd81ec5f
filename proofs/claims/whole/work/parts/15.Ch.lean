abbrev b_Ch_nextSize : ByteArray := prog_2_method_23_code
def y_Ch_nextSize : MethodName := ⟨R_Ch, "nextSize", "(III)I"⟩
def w_Ch_nextSize : List Cond := .code y_Ch_nextSize b_Ch_nextSize 8 (some .int) :: TB
theorem k_Ch_nextSize : Cond.code y_Ch_nextSize b_Ch_nextSize 8 (some .int) ∈ TB := tb_of 544 (by decide +kernel) (by decide +kernel)
theorem d_Ch_nextSize_0 : decode b_Ch_nextSize 0 = .ok (.iconst 0, 1) := by decide +kernel
theorem d_Ch_nextSize_1 : decode b_Ch_nextSize 1 = .ok (.istore 4, 2) := by decide +kernel
theorem d_Ch_nextSize_3 : decode b_Ch_nextSize 3 = .ok (.iconst 0, 1) := by decide +kernel
theorem d_Ch_nextSize_4 : decode b_Ch_nextSize 4 = .ok (.istore 5, 2) := by decide +kernel
theorem d_Ch_nextSize_6 : decode b_Ch_nextSize 6 = .ok (.iload 5, 2) := by decide +kernel
theorem d_Ch_nextSize_8 : decode b_Ch_nextSize 8 = .ok (.bipush 6, 2) := by decide +kernel
theorem d_Ch_nextSize_10 : decode b_Ch_nextSize 10 = .ok (.if_icmp .ge 67, 3) := by decide +kernel
theorem d_Ch_nextSize_13 : decode b_Ch_nextSize 13 = .ok (.iconst 0, 1) := by decide +kernel
theorem d_Ch_nextSize_14 : decode b_Ch_nextSize 14 = .ok (.istore 6, 2) := by decide +kernel
theorem d_Ch_nextSize_16 : decode b_Ch_nextSize 16 = .ok (.iload 6, 2) := by decide +kernel
theorem d_Ch_nextSize_18 : decode b_Ch_nextSize 18 = .ok (.iconst 2, 1) := by decide +kernel
theorem d_Ch_nextSize_19 : decode b_Ch_nextSize 19 = .ok (.if_icmp .ge 52, 3) := by decide +kernel
theorem d_Ch_nextSize_22 : decode b_Ch_nextSize 22 = .ok (.aload_n 0, 1) := by decide +kernel
theorem d_Ch_nextSize_23 : decode b_Ch_nextSize 23 = .ok (.getfield 18, 3) := by decide +kernel
theorem d_Ch_nextSize_26 : decode b_Ch_nextSize 26 = .ok (.iload 5, 2) := by decide +kernel
theorem d_Ch_nextSize_28 : decode b_Ch_nextSize 28 = .ok (.iload_n 1, 1) := by decide +kernel
theorem d_Ch_nextSize_29 : decode b_Ch_nextSize 29 = .ok (.iload_n 2, 1) := by decide +kernel
theorem d_Ch_nextSize_30 : decode b_Ch_nextSize 30 = .ok (.invokestatic 44, 3) := by decide +kernel
theorem d_Ch_nextSize_33 : decode b_Ch_nextSize 33 = .ok (.iload 6, 2) := by decide +kernel
theorem d_Ch_nextSize_35 : decode b_Ch_nextSize 35 = .ok (.invokestatic 52, 3) := by decide +kernel
theorem d_Ch_nextSize_38 : decode b_Ch_nextSize 38 = .ok (.invokevirtual 56, 3) := by decide +kernel
theorem d_Ch_nextSize_41 : decode b_Ch_nextSize 41 = .ok (.istore 7, 2) := by decide +kernel
theorem d_Ch_nextSize_43 : decode b_Ch_nextSize 43 = .ok (.iload 7, 2) := by decide +kernel
theorem d_Ch_nextSize_45 : decode b_Ch_nextSize 45 = .ok (.iload_n 3, 1) := by decide +kernel
theorem d_Ch_nextSize_46 : decode b_Ch_nextSize 46 = .ok (.if_icmp .le 19, 3) := by decide +kernel
theorem d_Ch_nextSize_49 : decode b_Ch_nextSize 49 = .ok (.iload 4, 2) := by decide +kernel
theorem d_Ch_nextSize_51 : decode b_Ch_nextSize 51 = .ok (.ifCond .eq 10, 3) := by decide +kernel
theorem d_Ch_nextSize_54 : decode b_Ch_nextSize 54 = .ok (.iload 7, 2) := by decide +kernel
theorem d_Ch_nextSize_56 : decode b_Ch_nextSize 56 = .ok (.iload 4, 2) := by decide +kernel
theorem d_Ch_nextSize_58 : decode b_Ch_nextSize 58 = .ok (.if_icmp .ge 7, 3) := by decide +kernel
theorem d_Ch_nextSize_61 : decode b_Ch_nextSize 61 = .ok (.iload 7, 2) := by decide +kernel
theorem d_Ch_nextSize_63 : decode b_Ch_nextSize 63 = .ok (.istore 4, 2) := by decide +kernel
theorem d_Ch_nextSize_65 : decode b_Ch_nextSize 65 = .ok (.iinc 6 1, 3) := by decide +kernel
theorem d_Ch_nextSize_68 : decode b_Ch_nextSize 68 = .ok (.goto (-52), 3) := by decide +kernel
theorem d_Ch_nextSize_71 : decode b_Ch_nextSize 71 = .ok (.iinc 5 1, 3) := by decide +kernel
theorem d_Ch_nextSize_74 : decode b_Ch_nextSize 74 = .ok (.goto (-68), 3) := by decide +kernel
theorem d_Ch_nextSize_77 : decode b_Ch_nextSize 77 = .ok (.iload 4, 2) := by decide +kernel
theorem d_Ch_nextSize_79 : decode b_Ch_nextSize 79 = .ok (.ireturn, 1) := by decide +kernel
abbrev rm_Ch_nextSize : Room := { frames := 1, cells := 0, slots := 0, locals := 22 }
def f_Ch_nextSize_16 (N : Nat) (kb : Int32 → Int32 → Option ((Int32))) (kx71 : Int32 → Option ((Int32))) (s_self s_table : Nat → Nat → Int32) (v1 v2 v3 v4 v5 v6 : Int32) : Option ((Int32)) :=
  if 2 ≤ v6 then
    kx71 v4
  else
    bd1 (m_Ch_cellOf v5 v1 v2) fun r_2 =>
    bd1 (m_Tt_treeOf r_2 v6) fun r_4 =>
    bd1 (m_Tt_sizeAt s_table r_4) fun r_6 =>
    if r_6 ≤ v3 then
      nm (v6 + 1) fun v6_9 =>
      kb v4 v6_9
    else
      if v4 = 0 then
        nm (v6 + 1) fun v6_11 =>
        kb r_6 v6_11
      else
        if v4 ≤ r_6 then
          nm (v6 + 1) fun v6_13 =>
          kb v4 v6_13
        else
          nm (v6 + 1) fun v6_14 =>
          kb r_6 v6_14
set_option maxHeartbeats 4000000 in
set_option maxRecDepth 100000 in
theorem t_Ch_nextSize_16 {p : Program} {l : Launch} {e : Env} {s : State} {m : MethodId} {args : Array Value} {below : List Frame} {meth : Method} {c : Code} {A : Nat → Prop} {D : va_G} {K : Nat → ClassId} (a_self a_grammar a_table : Nat → Nat) (X : gx p s m args c b_Ch_nextSize 8 R_Ch w_Ch_nextSize D classes (tyK K) A) (hr : meth.sig.returnType = some .int) (hlk : meth.locks = false) (N : Nat) (r : Int32) (s_self s_table : Nat → Nat → Int32) (v1 v2 v3 v4 v5 v6 : Int32) (kb : Int32 → Int32 → Option ((Int32))) (hkb : ∀ (v4 v6 : Int32), kb v4 v6 = some r → Gd p l e rm_Ch_nextSize s m args below meth c 0 0 (MQ below (sq D classes (tyK K) (some (.int r)) [wd_Ch K a_self (a_grammar 0) (a_table 0) s_self, wd_Tt K a_table s_table] A) args s 0 0 A) D classes A 8 16 [wd_Ch K a_self (a_grammar 0) (a_table 0) s_self, wd_Tt K a_table s_table] [(0, .ref (a_self 0)), (1, .int v1), (2, .int v2), (3, .int v3), (4, .int v4), (5, .int v5), (6, .int v6)] []) (kx71 : Int32 → Option ((Int32))) (hkx71 : ∀ (v4 : Int32), kx71 v4 = some r → Gd p l e rm_Ch_nextSize s m args below meth c 0 0 (MQ below (sq D classes (tyK K) (some (.int r)) [wd_Ch K a_self (a_grammar 0) (a_table 0) s_self, wd_Tt K a_table s_table] A) args s 0 0 A) D classes A 8 71 [wd_Ch K a_self (a_grammar 0) (a_table 0) s_self, wd_Tt K a_table s_table] [(0, .ref (a_self 0)), (1, .int v1), (2, .int v2), (3, .int v3), (4, .int v4), (5, .int v5)] []) (h : f_Ch_nextSize_16 N kb kx71 s_self s_table v1 v2 v3 v4 v5 v6 = some r) : Gd p l e rm_Ch_nextSize s m args below meth c 0 0 (MQ below (sq D classes (tyK K) (some (.int r)) [wd_Ch K a_self (a_grammar 0) (a_table 0) s_self, wd_Tt K a_table s_table] A) args s 0 0 A) D classes A 8 16 [wd_Ch K a_self (a_grammar 0) (a_table 0) s_self, wd_Tt K a_table s_table] [(0, .ref (a_self 0)), (1, .int v1), (2, .int v2), (3, .int v3), (4, .int v4), (5, .int v5), (6, .int v6)] [] := by
  unfold f_Ch_nextSize_16 at h
  refine gd_iload X d_Ch_nextSize_16 6 rfl ?_
  refine gd_iconst X (v := 2) d_Ch_nextSize_18 (by decide) ?_
  refine gd_icmp_ge X (tgt := 71) d_Ch_nextSize_19 (by decide) (fun c_1 => ?_) (fun c_1 => ?_)
  · replace h := it_p c_1 h
    refine gd_loc (lv' := [(0, .ref (a_self 0)), (1, .int v1), (2, .int v2), (3, .int v3), (4, .int v4), (5, .int v5)]) [0, 1, 2, 3, 4, 5] rfl ?_
    exact hkx71 v4 h
  · replace h := it_n c_1 h
    refine gd_aload_n X d_Ch_nextSize_22 0 rfl ?_
    refine gd_get X (ci := 3) (C := R_Ch) (T := F_Ch) (N := 12) (v := .ref (a_table 0)) 0 0 rfl rfl rfl (in_Ch _) 1 (by decide) (List.mem_cons_of_mem _ fl_Ch_18) rfl rfl d_Ch_nextSize_23 ?_
    refine gd_iload X d_Ch_nextSize_26 5 rfl ?_
    refine gd_iload_n X d_Ch_nextSize_28 1 rfl ?_
    refine gd_iload_n X d_Ch_nextSize_29 2 rfl ?_
    obtain ⟨r_2, hc_3, h⟩ := bd1_e h
    refine gd_pI X (gd_Sc X (As := [.int v5, .int v1, .int v2]) (rest := [.ref (a_table 0)]) (c_Ch_cellOf l D K v5 v1 v2 r_2 hc_3) 3 (gi_S ml_Ch_44 u_Ch_cellOf) rfl ⟨rfl, rfl⟩ (by decide +kernel) ⟨by decide, by decide⟩ rfl rfl (Nat.le_of_ble_eq_true rfl) ⟨Nat.zero_le _, Nat.zero_le _⟩ d_Ch_nextSize_30) [] rfl rfl ?_
    refine gd_iload X d_Ch_nextSize_33 6 rfl ?_
    obtain ⟨r_4, hc_5, h⟩ := bd1_e h
    refine gd_pI X (gd_Sc X (As := [.int r_2, .int v6]) (rest := [.ref (a_table 0)]) (c_Tt_treeOf l D K r_2 v6 r_4 hc_5) 2 (gi_S ml_Ch_52 u_Tt_treeOf) rfl ⟨rfl, rfl⟩ (by decide +kernel) ⟨by decide, by decide⟩ rfl rfl (Nat.le_of_ble_eq_true rfl) ⟨Nat.zero_le _, Nat.zero_le _⟩ d_Ch_nextSize_35) [] rfl rfl ?_
    obtain ⟨r_6, hc_7, h⟩ := bd1_e h
    refine gd_pI X (gd_V X (As := [.int r_4]) (rest := []) (c_Tt_sizeAt l D K a_table s_table r_4 r_6 hc_7) 1 (gi_V ml_Ch_56 u_Tt_sizeAt) rfl ⟨rfl, rfl⟩ (by decide +kernel) ⟨by decide, by decide⟩ (ci := 2) rfl rfl rfl rfl rfl rfl (Nat.le_of_ble_eq_true rfl) ⟨Nat.zero_le _, Nat.zero_le _⟩ d_Ch_nextSize_38) [1] rfl rfl ?_
    refine gd_istore X (lv' := [(7, .int r_6), (0, .ref (a_self 0)), (1, .int v1), (2, .int v2), (3, .int v3), (4, .int v4), (5, .int v5), (6, .int v6)]) d_Ch_nextSize_41 (by decide) rfl ?_
    refine gd_iload X d_Ch_nextSize_43 0 rfl ?_
    refine gd_iload_n X d_Ch_nextSize_45 4 rfl ?_
    refine gd_icmp_le X (tgt := 65) d_Ch_nextSize_46 (by decide) (fun c_8 => ?_) (fun c_8 => ?_)
    · replace h := it_p c_8 h
      obtain ⟨v6_9, ev6_9, h⟩ := nm_e' h
      refine gd_iinc X (v := v6_9) (lv' := [(6, .int v6_9), (7, .int r_6), (0, .ref (a_self 0)), (1, .int v1), (2, .int v2), (3, .int v3), (4, .int v4), (5, .int v5)]) d_Ch_nextSize_65 (k := 7) rfl (by rw [ev6_9]; rfl) (by decide) rfl ?_
      refine gd_goto X (tgt := 16) d_Ch_nextSize_68 (by decide) ?_
      refine gd_loc (lv' := [(0, .ref (a_self 0)), (1, .int v1), (2, .int v2), (3, .int v3), (4, .int v4), (5, .int v5), (6, .int v6_9)]) [2, 3, 4, 5, 6, 7, 0] rfl ?_
      exact hkb v4 v6_9 h
    · replace h := it_n c_8 h
      refine gd_iload X d_Ch_nextSize_49 5 rfl ?_
      refine gd_if_eq X (tgt := 61) d_Ch_nextSize_51 (by decide) (fun c_10 => ?_) (fun c_10 => ?_)
      · replace h := it_p c_10 h
        refine gd_iload X d_Ch_nextSize_61 0 rfl ?_
        refine gd_istore X (lv' := [(4, .int r_6), (7, .int r_6), (0, .ref (a_self 0)), (1, .int v1), (2, .int v2), (3, .int v3), (5, .int v5), (6, .int v6)]) d_Ch_nextSize_63 (by decide) rfl ?_
        obtain ⟨v6_11, ev6_11, h⟩ := nm_e' h
        refine gd_iinc X (v := v6_11) (lv' := [(6, .int v6_11), (4, .int r_6), (7, .int r_6), (0, .ref (a_self 0)), (1, .int v1), (2, .int v2), (3, .int v3), (5, .int v5)]) d_Ch_nextSize_65 (k := 7) rfl (by rw [ev6_11]; rfl) (by decide) rfl ?_
        refine gd_goto X (tgt := 16) d_Ch_nextSize_68 (by decide) ?_
        refine gd_loc (lv' := [(0, .ref (a_self 0)), (1, .int v1), (2, .int v2), (3, .int v3), (4, .int r_6), (5, .int v5), (6, .int v6_11)]) [3, 4, 5, 6, 1, 7, 0] rfl ?_
        exact hkb r_6 v6_11 h
      · replace h := it_n c_10 h
        refine gd_iload X d_Ch_nextSize_54 0 rfl ?_
        refine gd_iload X d_Ch_nextSize_56 5 rfl ?_
        refine gd_icmp_ge X (tgt := 65) d_Ch_nextSize_58 (by decide) (fun c_12 => ?_) (fun c_12 => ?_)
        · replace h := it_p c_12 h
          obtain ⟨v6_13, ev6_13, h⟩ := nm_e' h
          refine gd_iinc X (v := v6_13) (lv' := [(6, .int v6_13), (7, .int r_6), (0, .ref (a_self 0)), (1, .int v1), (2, .int v2), (3, .int v3), (4, .int v4), (5, .int v5)]) d_Ch_nextSize_65 (k := 7) rfl (by rw [ev6_13]; rfl) (by decide) rfl ?_
          refine gd_goto X (tgt := 16) d_Ch_nextSize_68 (by decide) ?_
          refine gd_loc (lv' := [(0, .ref (a_self 0)), (1, .int v1), (2, .int v2), (3, .int v3), (4, .int v4), (5, .int v5), (6, .int v6_13)]) [2, 3, 4, 5, 6, 7, 0] rfl ?_
          exact hkb v4 v6_13 h
        · replace h := it_n c_12 h
          refine gd_iload X d_Ch_nextSize_61 0 rfl ?_
          refine gd_istore X (lv' := [(4, .int r_6), (7, .int r_6), (0, .ref (a_self 0)), (1, .int v1), (2, .int v2), (3, .int v3), (5, .int v5), (6, .int v6)]) d_Ch_nextSize_63 (by decide) rfl ?_
          obtain ⟨v6_14, ev6_14, h⟩ := nm_e' h
          refine gd_iinc X (v := v6_14) (lv' := [(6, .int v6_14), (4, .int r_6), (7, .int r_6), (0, .ref (a_self 0)), (1, .int v1), (2, .int v2), (3, .int v3), (5, .int v5)]) d_Ch_nextSize_65 (k := 7) rfl (by rw [ev6_14]; rfl) (by decide) rfl ?_
          refine gd_goto X (tgt := 16) d_Ch_nextSize_68 (by decide) ?_
          refine gd_loc (lv' := [(0, .ref (a_self 0)), (1, .int v1), (2, .int v2), (3, .int v3), (4, .int r_6), (5, .int v5), (6, .int v6_14)]) [3, 4, 5, 6, 1, 7, 0] rfl ?_
          exact hkb r_6 v6_14 h
def f_Ch_nextSize_71 (N : Nat) (kb : Int32 → Int32 → Option ((Int32))) (kx77 : Int32 → Option ((Int32))) (s_self s_table : Nat → Nat → Int32) (v1 v2 v3 v4 v5 : Int32) : Option ((Int32)) :=
  nm (v5 + 1) fun v5_1 =>
  kb v4 v5_1
set_option maxHeartbeats 4000000 in
set_option maxRecDepth 100000 in
theorem t_Ch_nextSize_71 {p : Program} {l : Launch} {e : Env} {s : State} {m : MethodId} {args : Array Value} {below : List Frame} {meth : Method} {c : Code} {A : Nat → Prop} {D : va_G} {K : Nat → ClassId} (a_self a_grammar a_table : Nat → Nat) (X : gx p s m args c b_Ch_nextSize 8 R_Ch w_Ch_nextSize D classes (tyK K) A) (hr : meth.sig.returnType = some .int) (hlk : meth.locks = false) (N : Nat) (r : Int32) (s_self s_table : Nat → Nat → Int32) (v1 v2 v3 v4 v5 : Int32) (kb : Int32 → Int32 → Option ((Int32))) (hkb : ∀ (v4 v5 : Int32), kb v4 v5 = some r → Gd p l e rm_Ch_nextSize s m args below meth c 0 0 (MQ below (sq D classes (tyK K) (some (.int r)) [wd_Ch K a_self (a_grammar 0) (a_table 0) s_self, wd_Tt K a_table s_table] A) args s 0 0 A) D classes A 8 6 [wd_Ch K a_self (a_grammar 0) (a_table 0) s_self, wd_Tt K a_table s_table] [(0, .ref (a_self 0)), (1, .int v1), (2, .int v2), (3, .int v3), (4, .int v4), (5, .int v5)] []) (kx77 : Int32 → Option ((Int32))) (hkx77 : ∀ (v4 : Int32), kx77 v4 = some r → Gd p l e rm_Ch_nextSize s m args below meth c 0 0 (MQ below (sq D classes (tyK K) (some (.int r)) [wd_Ch K a_self (a_grammar 0) (a_table 0) s_self, wd_Tt K a_table s_table] A) args s 0 0 A) D classes A 8 77 [wd_Ch K a_self (a_grammar 0) (a_table 0) s_self, wd_Tt K a_table s_table] [(4, .int v4)] []) (h : f_Ch_nextSize_71 N kb kx77 s_self s_table v1 v2 v3 v4 v5 = some r) : Gd p l e rm_Ch_nextSize s m args below meth c 0 0 (MQ below (sq D classes (tyK K) (some (.int r)) [wd_Ch K a_self (a_grammar 0) (a_table 0) s_self, wd_Tt K a_table s_table] A) args s 0 0 A) D classes A 8 71 [wd_Ch K a_self (a_grammar 0) (a_table 0) s_self, wd_Tt K a_table s_table] [(0, .ref (a_self 0)), (1, .int v1), (2, .int v2), (3, .int v3), (4, .int v4), (5, .int v5)] [] := by
  unfold f_Ch_nextSize_71 at h
  obtain ⟨v5_1, ev5_1, h⟩ := nm_e' h
  refine gd_iinc X (v := v5_1) (lv' := [(5, .int v5_1), (0, .ref (a_self 0)), (1, .int v1), (2, .int v2), (3, .int v3), (4, .int v4)]) d_Ch_nextSize_71 (k := 5) rfl (by rw [ev5_1]; rfl) (by decide) rfl ?_
  refine gd_goto X (tgt := 6) d_Ch_nextSize_74 (by decide) ?_
  refine gd_loc (lv' := [(0, .ref (a_self 0)), (1, .int v1), (2, .int v2), (3, .int v3), (4, .int v4), (5, .int v5_1)]) [1, 2, 3, 4, 5, 0] rfl ?_
  exact hkb v4 v5_1 h
def l_Ch_nextSize_16 (N : Nat) (s_self s_table : Nat → Nat → Int32) (v1 v2 v3 v5 : Int32) (kx71 : Int32 → Option ((Int32))) : Nat → Int32 → Int32 → Option ((Int32))
  | 0, _, _ => none
  | n + 1, v4, v6 => f_Ch_nextSize_16 N (l_Ch_nextSize_16 N s_self s_table v1 v2 v3 v5 kx71 n) kx71 s_self s_table v1 v2 v3 v4 v5 v6
set_option maxHeartbeats 4000000 in
set_option maxRecDepth 100000 in
theorem tl_Ch_nextSize_16 {p : Program} {l : Launch} {e : Env} {s : State} {m : MethodId} {args : Array Value} {below : List Frame} {meth : Method} {c : Code} {A : Nat → Prop} {D : va_G} {K : Nat → ClassId} (a_self a_grammar a_table : Nat → Nat) (X : gx p s m args c b_Ch_nextSize 8 R_Ch w_Ch_nextSize D classes (tyK K) A) (hr : meth.sig.returnType = some .int) (hlk : meth.locks = false) (N : Nat) (r : Int32) (s_self s_table : Nat → Nat → Int32) (v1 v2 v3 v5 : Int32) (kx71 : Int32 → Option ((Int32))) (hkx71 : ∀ (v4 : Int32), kx71 v4 = some r → Gd p l e rm_Ch_nextSize s m args below meth c 0 0 (MQ below (sq D classes (tyK K) (some (.int r)) [wd_Ch K a_self (a_grammar 0) (a_table 0) s_self, wd_Tt K a_table s_table] A) args s 0 0 A) D classes A 8 71 [wd_Ch K a_self (a_grammar 0) (a_table 0) s_self, wd_Tt K a_table s_table] [(0, .ref (a_self 0)), (1, .int v1), (2, .int v2), (3, .int v3), (4, .int v4), (5, .int v5)] []) : ∀ (n : Nat) (v4 v6 : Int32), l_Ch_nextSize_16 N s_self s_table v1 v2 v3 v5 kx71 n v4 v6 = some r → Gd p l e rm_Ch_nextSize s m args below meth c 0 0 (MQ below (sq D classes (tyK K) (some (.int r)) [wd_Ch K a_self (a_grammar 0) (a_table 0) s_self, wd_Tt K a_table s_table] A) args s 0 0 A) D classes A 8 16 [wd_Ch K a_self (a_grammar 0) (a_table 0) s_self, wd_Tt K a_table s_table] [(0, .ref (a_self 0)), (1, .int v1), (2, .int v2), (3, .int v3), (4, .int v4), (5, .int v5), (6, .int v6)] [] := by
  intro n
  induction n with
  | zero => intro v4 v6 h; have h : (none : Option ((Int32))) = some _ := h; cases h
  | succ n ih =>
    intro v4 v6 h
    exact t_Ch_nextSize_16 a_self a_grammar a_table X hr hlk N r s_self s_table v1 v2 v3 v4 v5 v6 (l_Ch_nextSize_16 N s_self s_table v1 v2 v3 v5 kx71 n) ih kx71 hkx71 h
def f_Ch_nextSize_6 (N : Nat) (kb : Int32 → Int32 → Option ((Int32))) (kx77 : Int32 → Option ((Int32))) (s_self s_table : Nat → Nat → Int32) (v1 v2 v3 v4 v5 : Int32) : Option ((Int32)) :=
  if 6 ≤ v5 then
    kx77 v4
  else
    l_Ch_nextSize_16 N s_self s_table v1 v2 v3 v5 (fun v4 => f_Ch_nextSize_71 N kb kx77 s_self s_table v1 v2 v3 v4 v5) N v4 0
set_option maxHeartbeats 4000000 in
set_option maxRecDepth 100000 in
theorem t_Ch_nextSize_6 {p : Program} {l : Launch} {e : Env} {s : State} {m : MethodId} {args : Array Value} {below : List Frame} {meth : Method} {c : Code} {A : Nat → Prop} {D : va_G} {K : Nat → ClassId} (a_self a_grammar a_table : Nat → Nat) (X : gx p s m args c b_Ch_nextSize 8 R_Ch w_Ch_nextSize D classes (tyK K) A) (hr : meth.sig.returnType = some .int) (hlk : meth.locks = false) (N : Nat) (r : Int32) (s_self s_table : Nat → Nat → Int32) (v1 v2 v3 v4 v5 : Int32) (kb : Int32 → Int32 → Option ((Int32))) (hkb : ∀ (v4 v5 : Int32), kb v4 v5 = some r → Gd p l e rm_Ch_nextSize s m args below meth c 0 0 (MQ below (sq D classes (tyK K) (some (.int r)) [wd_Ch K a_self (a_grammar 0) (a_table 0) s_self, wd_Tt K a_table s_table] A) args s 0 0 A) D classes A 8 6 [wd_Ch K a_self (a_grammar 0) (a_table 0) s_self, wd_Tt K a_table s_table] [(0, .ref (a_self 0)), (1, .int v1), (2, .int v2), (3, .int v3), (4, .int v4), (5, .int v5)] []) (kx77 : Int32 → Option ((Int32))) (hkx77 : ∀ (v4 : Int32), kx77 v4 = some r → Gd p l e rm_Ch_nextSize s m args below meth c 0 0 (MQ below (sq D classes (tyK K) (some (.int r)) [wd_Ch K a_self (a_grammar 0) (a_table 0) s_self, wd_Tt K a_table s_table] A) args s 0 0 A) D classes A 8 77 [wd_Ch K a_self (a_grammar 0) (a_table 0) s_self, wd_Tt K a_table s_table] [(4, .int v4)] []) (h : f_Ch_nextSize_6 N kb kx77 s_self s_table v1 v2 v3 v4 v5 = some r) : Gd p l e rm_Ch_nextSize s m args below meth c 0 0 (MQ below (sq D classes (tyK K) (some (.int r)) [wd_Ch K a_self (a_grammar 0) (a_table 0) s_self, wd_Tt K a_table s_table] A) args s 0 0 A) D classes A 8 6 [wd_Ch K a_self (a_grammar 0) (a_table 0) s_self, wd_Tt K a_table s_table] [(0, .ref (a_self 0)), (1, .int v1), (2, .int v2), (3, .int v3), (4, .int v4), (5, .int v5)] [] := by
  unfold f_Ch_nextSize_6 at h
  refine gd_iload X d_Ch_nextSize_6 5 rfl ?_
  refine gd_bipush X (v := 6) d_Ch_nextSize_8 (by decide) ?_
  refine gd_icmp_ge X (tgt := 77) d_Ch_nextSize_10 (by decide) (fun c_1 => ?_) (fun c_1 => ?_)
  · replace h := it_p c_1 h
    refine gd_loc (lv' := [(4, .int v4)]) [4] rfl ?_
    exact hkx77 v4 h
  · replace h := it_n c_1 h
    refine gd_iconst X (v := 0) d_Ch_nextSize_13 (by decide) ?_
    refine gd_istore X (lv' := [(6, .int 0), (0, .ref (a_self 0)), (1, .int v1), (2, .int v2), (3, .int v3), (4, .int v4), (5, .int v5)]) d_Ch_nextSize_14 (by decide) rfl ?_
    refine gd_loc (lv' := [(0, .ref (a_self 0)), (1, .int v1), (2, .int v2), (3, .int v3), (4, .int v4), (5, .int v5), (6, .int 0)]) [1, 2, 3, 4, 5, 6, 0] rfl ?_
    exact tl_Ch_nextSize_16 a_self a_grammar a_table X hr hlk N r s_self s_table v1 v2 v3 v5 (fun v4 => f_Ch_nextSize_71 N kb kx77 s_self s_table v1 v2 v3 v4 v5) (fun v4 h => t_Ch_nextSize_71 a_self a_grammar a_table X hr hlk N r s_self s_table v1 v2 v3 v4 v5 kb hkb kx77 hkx77 h) N v4 0 h
def f_Ch_nextSize_77 (N : Nat) (s_self s_table : Nat → Nat → Int32) (v4 : Int32) : Option ((Int32)) :=
  some (v4)
set_option maxHeartbeats 4000000 in
set_option maxRecDepth 100000 in
theorem t_Ch_nextSize_77 {p : Program} {l : Launch} {e : Env} {s : State} {m : MethodId} {args : Array Value} {below : List Frame} {meth : Method} {c : Code} {A : Nat → Prop} {D : va_G} {K : Nat → ClassId} (a_self a_grammar a_table : Nat → Nat) (X : gx p s m args c b_Ch_nextSize 8 R_Ch w_Ch_nextSize D classes (tyK K) A) (hr : meth.sig.returnType = some .int) (hlk : meth.locks = false) (N : Nat) (r : Int32) (s_self s_table : Nat → Nat → Int32) (v4 : Int32) (h : f_Ch_nextSize_77 N s_self s_table v4 = some r) : Gd p l e rm_Ch_nextSize s m args below meth c 0 0 (MQ below (sq D classes (tyK K) (some (.int r)) [wd_Ch K a_self (a_grammar 0) (a_table 0) s_self, wd_Tt K a_table s_table] A) args s 0 0 A) D classes A 8 77 [wd_Ch K a_self (a_grammar 0) (a_table 0) s_self, wd_Tt K a_table s_table] [(4, .int v4)] [] := by
  unfold f_Ch_nextSize_77 at h
  refine gd_iload X d_Ch_nextSize_77 0 rfl ?_
  cases h
  exact gd_iret X hr hlk d_Ch_nextSize_79
def l_Ch_nextSize_6 (N : Nat) (s_self s_table : Nat → Nat → Int32) (v1 v2 v3 : Int32) (kx77 : Int32 → Option ((Int32))) : Nat → Int32 → Int32 → Option ((Int32))
  | 0, _, _ => none
  | n + 1, v4, v5 => f_Ch_nextSize_6 N (l_Ch_nextSize_6 N s_self s_table v1 v2 v3 kx77 n) kx77 s_self s_table v1 v2 v3 v4 v5
set_option maxHeartbeats 4000000 in
set_option maxRecDepth 100000 in
theorem tl_Ch_nextSize_6 {p : Program} {l : Launch} {e : Env} {s : State} {m : MethodId} {args : Array Value} {below : List Frame} {meth : Method} {c : Code} {A : Nat → Prop} {D : va_G} {K : Nat → ClassId} (a_self a_grammar a_table : Nat → Nat) (X : gx p s m args c b_Ch_nextSize 8 R_Ch w_Ch_nextSize D classes (tyK K) A) (hr : meth.sig.returnType = some .int) (hlk : meth.locks = false) (N : Nat) (r : Int32) (s_self s_table : Nat → Nat → Int32) (v1 v2 v3 : Int32) (kx77 : Int32 → Option ((Int32))) (hkx77 : ∀ (v4 : Int32), kx77 v4 = some r → Gd p l e rm_Ch_nextSize s m args below meth c 0 0 (MQ below (sq D classes (tyK K) (some (.int r)) [wd_Ch K a_self (a_grammar 0) (a_table 0) s_self, wd_Tt K a_table s_table] A) args s 0 0 A) D classes A 8 77 [wd_Ch K a_self (a_grammar 0) (a_table 0) s_self, wd_Tt K a_table s_table] [(4, .int v4)] []) : ∀ (n : Nat) (v4 v5 : Int32), l_Ch_nextSize_6 N s_self s_table v1 v2 v3 kx77 n v4 v5 = some r → Gd p l e rm_Ch_nextSize s m args below meth c 0 0 (MQ below (sq D classes (tyK K) (some (.int r)) [wd_Ch K a_self (a_grammar 0) (a_table 0) s_self, wd_Tt K a_table s_table] A) args s 0 0 A) D classes A 8 6 [wd_Ch K a_self (a_grammar 0) (a_table 0) s_self, wd_Tt K a_table s_table] [(0, .ref (a_self 0)), (1, .int v1), (2, .int v2), (3, .int v3), (4, .int v4), (5, .int v5)] [] := by
  intro n
  induction n with
  | zero => intro v4 v5 h; have h : (none : Option ((Int32))) = some _ := h; cases h
  | succ n ih =>
    intro v4 v5 h
    exact t_Ch_nextSize_6 a_self a_grammar a_table X hr hlk N r s_self s_table v1 v2 v3 v4 v5 (l_Ch_nextSize_6 N s_self s_table v1 v2 v3 kx77 n) ih kx77 hkx77 h
def f_Ch_nextSize_0 (N : Nat) (s_self s_table : Nat → Nat → Int32) (v1 v2 v3 : Int32) : Option ((Int32)) :=
  l_Ch_nextSize_6 N s_self s_table v1 v2 v3 (fun v4 => f_Ch_nextSize_77 N s_self s_table v4) N 0 0
set_option maxHeartbeats 4000000 in
set_option maxRecDepth 100000 in
theorem t_Ch_nextSize_0 {p : Program} {l : Launch} {e : Env} {s : State} {m : MethodId} {args : Array Value} {below : List Frame} {meth : Method} {c : Code} {A : Nat → Prop} {D : va_G} {K : Nat → ClassId} (a_self a_grammar a_table : Nat → Nat) (X : gx p s m args c b_Ch_nextSize 8 R_Ch w_Ch_nextSize D classes (tyK K) A) (hr : meth.sig.returnType = some .int) (hlk : meth.locks = false) (N : Nat) (r : Int32) (s_self s_table : Nat → Nat → Int32) (v1 v2 v3 : Int32) (h : f_Ch_nextSize_0 N s_self s_table v1 v2 v3 = some r) : Gd p l e rm_Ch_nextSize s m args below meth c 0 0 (MQ below (sq D classes (tyK K) (some (.int r)) [wd_Ch K a_self (a_grammar 0) (a_table 0) s_self, wd_Tt K a_table s_table] A) args s 0 0 A) D classes A 8 0 [wd_Ch K a_self (a_grammar 0) (a_table 0) s_self, wd_Tt K a_table s_table] [(0, .ref (a_self 0)), (1, .int v1), (2, .int v2), (3, .int v3)] [] := by
  unfold f_Ch_nextSize_0 at h
  refine gd_iconst X (v := 0) d_Ch_nextSize_0 (by decide) ?_
  refine gd_istore X (lv' := [(4, .int 0), (0, .ref (a_self 0)), (1, .int v1), (2, .int v2), (3, .int v3)]) d_Ch_nextSize_1 (by decide) rfl ?_
  refine gd_iconst X (v := 0) d_Ch_nextSize_3 (by decide) ?_
  refine gd_istore X (lv' := [(5, .int 0), (4, .int 0), (0, .ref (a_self 0)), (1, .int v1), (2, .int v2), (3, .int v3)]) d_Ch_nextSize_4 (by decide) rfl ?_
  refine gd_loc (lv' := [(0, .ref (a_self 0)), (1, .int v1), (2, .int v2), (3, .int v3), (4, .int 0), (5, .int 0)]) [2, 3, 4, 5, 1, 0] rfl ?_
  exact tl_Ch_nextSize_6 a_self a_grammar a_table X hr hlk N r s_self s_table v1 v2 v3 (fun v4 => f_Ch_nextSize_77 N s_self s_table v4) (fun v4 h => t_Ch_nextSize_77 a_self a_grammar a_table X hr hlk N r s_self s_table v4 h) N 0 0 h
def m_Ch_nextSize (N : Nat) (s_self s_table : Nat → Nat → Int32) (v1 v2 v3 : Int32) : Option ((Int32)) := f_Ch_nextSize_0 N s_self s_table v1 v2 v3
set_option maxHeartbeats 4000000 in
set_option maxRecDepth 100000 in
theorem c_Ch_nextSize (l : Launch) (D : va_G) (K : Nat → ClassId) (a_self a_grammar a_table : Nat → Nat) (N : Nat) (s_self s_table : Nat → Nat → Int32) (v1 v2 v3 : Int32) (r : Int32) (h : m_Ch_nextSize N s_self s_table v1 v2 v3 = some r) : SMet l y_Ch_nextSize w_Ch_nextSize rm_Ch_nextSize D classes (tyK K) [.ref (a_self 0), .int v1, .int v2, .int v3] (some (.int r)) [wd_Ch K a_self (a_grammar 0) (a_table 0) s_self, wd_Tt K a_table s_table] [wd_Ch K a_self (a_grammar 0) (a_table 0) s_self, wd_Tt K a_table s_table] := by
  refine sm_of R_Ch (by decide) rfl rfl (Nat.le_of_ble_eq_true rfl) ?_
  intro p e s m below meth c A X hr hlk
  refine gd_loc (lv' := [(0, .ref (a_self 0)), (1, .int v1), (2, .int v2), (3, .int v3)]) [0, 1, 2, 3] rfl ?_
  exact t_Ch_nextSize_0 a_self a_grammar a_table X hr hlk N r s_self s_table v1 v2 v3 h
abbrev b_Ch_offerUnit : ByteArray := prog_2_method_22_code
def y_Ch_offerUnit : MethodName := ⟨R_Ch, "offerUnit", "(IIII)V"⟩
def w_Ch_offerUnit : List Cond := .code y_Ch_offerUnit b_Ch_offerUnit 9 none :: TB
theorem k_Ch_offerUnit : Cond.code y_Ch_offerUnit b_Ch_offerUnit 9 none ∈ TB := tb_of 548 (by decide +kernel) (by decide +kernel)
theorem d_Ch_offerUnit_0 : decode b_Ch_offerUnit 0 = .ok (.aload_n 0, 1) := by decide +kernel
theorem d_Ch_offerUnit_1 : decode b_Ch_offerUnit 1 = .ok (.getfield 9, 3) := by decide +kernel
theorem d_Ch_offerUnit_4 : decode b_Ch_offerUnit 4 = .ok (.iload_n 1, 1) := by decide +kernel
theorem d_Ch_offerUnit_5 : decode b_Ch_offerUnit 5 = .ok (.invokevirtual 97, 3) := by decide +kernel
theorem d_Ch_offerUnit_8 : decode b_Ch_offerUnit 8 = .ok (.iload_n 2, 1) := by decide +kernel
theorem d_Ch_offerUnit_9 : decode b_Ch_offerUnit 9 = .ok (.iload_n 3, 1) := by decide +kernel
theorem d_Ch_offerUnit_10 : decode b_Ch_offerUnit 10 = .ok (.invokestatic 44, 3) := by decide +kernel
theorem d_Ch_offerUnit_13 : decode b_Ch_offerUnit 13 = .ok (.istore 5, 2) := by decide +kernel
theorem d_Ch_offerUnit_15 : decode b_Ch_offerUnit 15 = .ok (.aload_n 0, 1) := by decide +kernel
theorem d_Ch_offerUnit_16 : decode b_Ch_offerUnit 16 = .ok (.getfield 9, 3) := by decide +kernel
theorem d_Ch_offerUnit_19 : decode b_Ch_offerUnit 19 = .ok (.iload_n 1, 1) := by decide +kernel
theorem d_Ch_offerUnit_20 : decode b_Ch_offerUnit 20 = .ok (.iconst 0, 1) := by decide +kernel
theorem d_Ch_offerUnit_21 : decode b_Ch_offerUnit 21 = .ok (.invokevirtual 100, 3) := by decide +kernel
theorem d_Ch_offerUnit_24 : decode b_Ch_offerUnit 24 = .ok (.iload_n 2, 1) := by decide +kernel
theorem d_Ch_offerUnit_25 : decode b_Ch_offerUnit 25 = .ok (.iload_n 3, 1) := by decide +kernel
theorem d_Ch_offerUnit_26 : decode b_Ch_offerUnit 26 = .ok (.invokestatic 44, 3) := by decide +kernel
theorem d_Ch_offerUnit_29 : decode b_Ch_offerUnit 29 = .ok (.istore 6, 2) := by decide +kernel
theorem d_Ch_offerUnit_31 : decode b_Ch_offerUnit 31 = .ok (.iconst 0, 1) := by decide +kernel
theorem d_Ch_offerUnit_32 : decode b_Ch_offerUnit 32 = .ok (.istore 7, 2) := by decide +kernel
theorem d_Ch_offerUnit_34 : decode b_Ch_offerUnit 34 = .ok (.iload 7, 2) := by decide +kernel
theorem d_Ch_offerUnit_36 : decode b_Ch_offerUnit 36 = .ok (.iconst 2, 1) := by decide +kernel
theorem d_Ch_offerUnit_37 : decode b_Ch_offerUnit 37 = .ok (.if_icmp .ge 60, 3) := by decide +kernel
theorem d_Ch_offerUnit_40 : decode b_Ch_offerUnit 40 = .ok (.iload 6, 2) := by decide +kernel
theorem d_Ch_offerUnit_42 : decode b_Ch_offerUnit 42 = .ok (.iload 7, 2) := by decide +kernel
theorem d_Ch_offerUnit_44 : decode b_Ch_offerUnit 44 = .ok (.invokestatic 52, 3) := by decide +kernel
theorem d_Ch_offerUnit_47 : decode b_Ch_offerUnit 47 = .ok (.istore 8, 2) := by decide +kernel
theorem d_Ch_offerUnit_49 : decode b_Ch_offerUnit 49 = .ok (.aload_n 0, 1) := by decide +kernel
theorem d_Ch_offerUnit_50 : decode b_Ch_offerUnit 50 = .ok (.getfield 18, 3) := by decide +kernel
theorem d_Ch_offerUnit_53 : decode b_Ch_offerUnit 53 = .ok (.iload 8, 2) := by decide +kernel
theorem d_Ch_offerUnit_55 : decode b_Ch_offerUnit 55 = .ok (.invokevirtual 56, 3) := by decide +kernel
theorem d_Ch_offerUnit_58 : decode b_Ch_offerUnit 58 = .ok (.iload 4, 2) := by decide +kernel
theorem d_Ch_offerUnit_60 : decode b_Ch_offerUnit 60 = .ok (.if_icmp .ne 31, 3) := by decide +kernel
theorem d_Ch_offerUnit_63 : decode b_Ch_offerUnit 63 = .ok (.aload_n 0, 1) := by decide +kernel
theorem d_Ch_offerUnit_64 : decode b_Ch_offerUnit 64 = .ok (.getfield 18, 3) := by decide +kernel
theorem d_Ch_offerUnit_67 : decode b_Ch_offerUnit 67 = .ok (.iload_n 1, 1) := by decide +kernel
theorem d_Ch_offerUnit_68 : decode b_Ch_offerUnit 68 = .ok (.iconst 1, 1) := by decide +kernel
theorem d_Ch_offerUnit_69 : decode b_Ch_offerUnit 69 = .ok (.invokevirtual 136, 3) := by decide +kernel
theorem d_Ch_offerUnit_72 : decode b_Ch_offerUnit 72 = .ok (.aload_n 0, 1) := by decide +kernel
theorem d_Ch_offerUnit_73 : decode b_Ch_offerUnit 73 = .ok (.getfield 18, 3) := by decide +kernel
theorem d_Ch_offerUnit_76 : decode b_Ch_offerUnit 76 = .ok (.iconst 0, 1) := by decide +kernel
theorem d_Ch_offerUnit_77 : decode b_Ch_offerUnit 77 = .ok (.iload 8, 2) := by decide +kernel
theorem d_Ch_offerUnit_79 : decode b_Ch_offerUnit 79 = .ok (.invokevirtual 173, 3) := by decide +kernel
theorem d_Ch_offerUnit_82 : decode b_Ch_offerUnit 82 = .ok (.aload_n 0, 1) := by decide +kernel
theorem d_Ch_offerUnit_83 : decode b_Ch_offerUnit 83 = .ok (.getfield 18, 3) := by decide +kernel
theorem d_Ch_offerUnit_86 : decode b_Ch_offerUnit 86 = .ok (.iload 5, 2) := by decide +kernel
theorem d_Ch_offerUnit_88 : decode b_Ch_offerUnit 88 = .ok (.invokevirtual 139, 3) := by decide +kernel
theorem d_Ch_offerUnit_91 : decode b_Ch_offerUnit 91 = .ok (.iinc 7 1, 3) := by decide +kernel
theorem d_Ch_offerUnit_94 : decode b_Ch_offerUnit 94 = .ok (.goto (-60), 3) := by decide +kernel
theorem d_Ch_offerUnit_97 : decode b_Ch_offerUnit 97 = .ok (.return_, 1) := by decide +kernel
theorem ml_Ch_173 : Cond.methodLink R_Ch 173 ⟨"RuleTrees$TreeTable", "setDraftPart", "(II)V"⟩ ∈ TB := tb_of 502 (by decide +kernel) (by decide +kernel)
theorem u_Tt_setDraftPart : (Cond.instanceMethod y_Tt_setDraftPart ∈ TB ∧ Cond.selects R_Tt y_Tt_setDraftPart y_Tt_setDraftPart ∈ TB) ∧ Cond.initialized R_Tt ∈ TB ∧ Cond.code y_Tt_setDraftPart b_Tt_setDraftPart 3 none ∈ TB := ⟨⟨(tb_of 503 (by decide +kernel) (by decide +kernel)), (tb_of 504 (by decide +kernel) (by decide +kernel))⟩, (tb_of 65 (by decide +kernel) (by decide +kernel)), k_Tt_setDraftPart⟩
theorem ml_Ch_100 : Cond.methodLink R_Ch 100 ⟨"RuleTrees$Grammar", "sortOfSlot", "(II)I"⟩ ∈ TB := tb_of 399 (by decide +kernel) (by decide +kernel)
theorem u_Gr_sortOfSlot : (Cond.instanceMethod y_Gr_sortOfSlot ∈ TB ∧ Cond.selects R_Gr y_Gr_sortOfSlot y_Gr_sortOfSlot ∈ TB) ∧ Cond.initialized R_Gr ∈ TB ∧ Cond.code y_Gr_sortOfSlot b_Gr_sortOfSlot 3 (some .int) ∈ TB := ⟨⟨(tb_of 400 (by decide +kernel) (by decide +kernel)), (tb_of 401 (by decide +kernel) (by decide +kernel))⟩, (tb_of 63 (by decide +kernel) (by decide +kernel)), k_Gr_sortOfSlot⟩
abbrev rm_Ch_offerUnit : Room := { frames := 3, cells := 0, slots := 0, locals := 74 }
def f_Ch_offerUnit_34 (N : Nat) (kb : (Nat → Nat → Int32) → Int32 → Option ((Nat → Nat → Int32))) (kx97 : (Nat → Nat → Int32) → Option ((Nat → Nat → Int32))) (s_self s_grammar s_table : Nat → Nat → Int32) (v1 v4 v5 v6 v7 : Int32) : Option ((Nat → Nat → Int32)) :=
  if 2 ≤ v7 then
    kx97 s_table
  else
    bd1 (m_Tt_treeOf v6 v7) fun r_2 =>
    bd1 (m_Tt_sizeAt s_table r_2) fun r_4 =>
    if r_4 = v4 then
      bd1 (m_Tt_startDraft s_table v1 1) fun s_table_8 =>
      bd1 (m_Tt_setDraftPart s_table_8 0 r_2) fun s_table_10 =>
      bd1 (m_Tt_offerDraft N s_table_10 v5) fun s_table_12 =>
      nm (v7 + 1) fun v7_14 =>
      kb s_table_12 v7_14
    else
      nm (v7 + 1) fun v7_7 =>
      kb s_table v7_7
set_option maxHeartbeats 4000000 in
set_option maxRecDepth 100000 in
theorem t_Ch_offerUnit_34 {p : Program} {l : Launch} {e : Env} {s : State} {m : MethodId} {args : Array Value} {below : List Frame} {meth : Method} {c : Code} {A : Nat → Prop} {D : va_G} {K : Nat → ClassId} (a_self a_grammar a_table : Nat → Nat) (X : gx p s m args c b_Ch_offerUnit 9 R_Ch w_Ch_offerUnit D classes (tyK K) A) (hr : meth.sig.returnType = none) (hlk : meth.locks = false) (N : Nat) (f_table : Nat → Nat → Int32) (s_self s_grammar s_table : Nat → Nat → Int32) (v1 v4 v5 v6 v7 : Int32) (kb : (Nat → Nat → Int32) → Int32 → Option ((Nat → Nat → Int32))) (hkb : ∀ (s_table : Nat → Nat → Int32) (v7 : Int32), kb s_table v7 = some f_table → Gd p l e rm_Ch_offerUnit s m args below meth c 0 0 (MQ below (sq D classes (tyK K) none [wd_Ch K a_self (a_grammar 0) (a_table 0) s_self, wd_Gr K a_grammar s_grammar, wd_Tt K a_table f_table] A) args s 0 0 A) D classes A 9 34 [wd_Ch K a_self (a_grammar 0) (a_table 0) s_self, wd_Gr K a_grammar s_grammar, wd_Tt K a_table s_table] [(0, .ref (a_self 0)), (1, .int v1), (4, .int v4), (5, .int v5), (6, .int v6), (7, .int v7)] []) (kx97 : (Nat → Nat → Int32) → Option ((Nat → Nat → Int32))) (hkx97 : ∀ (s_table : Nat → Nat → Int32), kx97 s_table = some f_table → Gd p l e rm_Ch_offerUnit s m args below meth c 0 0 (MQ below (sq D classes (tyK K) none [wd_Ch K a_self (a_grammar 0) (a_table 0) s_self, wd_Gr K a_grammar s_grammar, wd_Tt K a_table f_table] A) args s 0 0 A) D classes A 9 97 [wd_Ch K a_self (a_grammar 0) (a_table 0) s_self, wd_Gr K a_grammar s_grammar, wd_Tt K a_table s_table] [] []) (h : f_Ch_offerUnit_34 N kb kx97 s_self s_grammar s_table v1 v4 v5 v6 v7 = some f_table) : Gd p l e rm_Ch_offerUnit s m args below meth c 0 0 (MQ below (sq D classes (tyK K) none [wd_Ch K a_self (a_grammar 0) (a_table 0) s_self, wd_Gr K a_grammar s_grammar, wd_Tt K a_table f_table] A) args s 0 0 A) D classes A 9 34 [wd_Ch K a_self (a_grammar 0) (a_table 0) s_self, wd_Gr K a_grammar s_grammar, wd_Tt K a_table s_table] [(0, .ref (a_self 0)), (1, .int v1), (4, .int v4), (5, .int v5), (6, .int v6), (7, .int v7)] [] := by
  unfold f_Ch_offerUnit_34 at h
  refine gd_iload X d_Ch_offerUnit_34 5 rfl ?_
  refine gd_iconst X (v := 2) d_Ch_offerUnit_36 (by decide) ?_
  refine gd_icmp_ge X (tgt := 97) d_Ch_offerUnit_37 (by decide) (fun c_1 => ?_) (fun c_1 => ?_)
  · replace h := it_p c_1 h
    refine gd_loc (lv' := []) [] rfl ?_
    exact hkx97 s_table h
  · replace h := it_n c_1 h
    refine gd_iload X d_Ch_offerUnit_40 4 rfl ?_
    refine gd_iload X d_Ch_offerUnit_42 5 rfl ?_
    obtain ⟨r_2, hc_3, h⟩ := bd1_e h
    refine gd_pI X (gd_Sc X (As := [.int v6, .int v7]) (rest := []) (c_Tt_treeOf l D K v6 v7 r_2 hc_3) 2 (gi_S ml_Ch_52 u_Tt_treeOf) rfl ⟨rfl, rfl⟩ (by decide +kernel) ⟨by decide, by decide⟩ rfl rfl (Nat.le_of_ble_eq_true rfl) ⟨Nat.zero_le _, Nat.zero_le _⟩ d_Ch_offerUnit_44) [] rfl rfl ?_
    refine gd_istore X (lv' := [(8, .int r_2), (0, .ref (a_self 0)), (1, .int v1), (4, .int v4), (5, .int v5), (6, .int v6), (7, .int v7)]) d_Ch_offerUnit_47 (by decide) rfl ?_
    refine gd_aload_n X d_Ch_offerUnit_49 1 rfl ?_
    refine gd_get X (ci := 3) (C := R_Ch) (T := F_Ch) (N := 12) (v := .ref (a_table 0)) 0 0 rfl rfl rfl (in_Ch _) 1 (by decide) (List.mem_cons_of_mem _ fl_Ch_18) rfl rfl d_Ch_offerUnit_50 ?_
    refine gd_iload X d_Ch_offerUnit_53 0 rfl ?_
    obtain ⟨r_4, hc_5, h⟩ := bd1_e h
    refine gd_pI X (gd_V X (As := [.int r_2]) (rest := []) (c_Tt_sizeAt l D K a_table s_table r_2 r_4 hc_5) 1 (gi_V ml_Ch_56 u_Tt_sizeAt) rfl ⟨rfl, rfl⟩ (by decide +kernel) ⟨by decide, by decide⟩ (ci := 2) rfl rfl rfl rfl rfl rfl (Nat.le_of_ble_eq_true rfl) ⟨Nat.zero_le _, Nat.zero_le _⟩ d_Ch_offerUnit_55) [2] rfl rfl ?_
    refine gd_iload X d_Ch_offerUnit_58 3 rfl ?_
    refine gd_icmp_ne X (tgt := 91) d_Ch_offerUnit_60 (by decide) (fun c_6 => ?_) (fun c_6 => ?_)
    · replace h := it_n c_6 h
      obtain ⟨v7_7, ev7_7, h⟩ := nm_e' h
      refine gd_iinc X (v := v7_7) (lv' := [(7, .int v7_7), (8, .int r_2), (0, .ref (a_self 0)), (1, .int v1), (4, .int v4), (5, .int v5), (6, .int v6)]) d_Ch_offerUnit_91 (k := 6) rfl (by rw [ev7_7]; rfl) (by decide) rfl ?_
      refine gd_goto X (tgt := 34) d_Ch_offerUnit_94 (by decide) ?_
      refine gd_loc (lv' := [(0, .ref (a_self 0)), (1, .int v1), (4, .int v4), (5, .int v5), (6, .int v6), (7, .int v7_7)]) [2, 3, 4, 5, 6, 0] rfl ?_
      exact hkb s_table v7_7 h
    · replace h := it_p c_6 h
      refine gd_aload_n X d_Ch_offerUnit_63 1 rfl ?_
      refine gd_get X (ci := 3) (C := R_Ch) (T := F_Ch) (N := 12) (v := .ref (a_table 0)) 0 0 rfl rfl rfl (in_Ch _) 1 (by decide) (List.mem_cons_of_mem _ fl_Ch_18) rfl rfl d_Ch_offerUnit_64 ?_
      refine gd_iload_n X d_Ch_offerUnit_67 2 rfl ?_
      refine gd_iconst X (v := 1) d_Ch_offerUnit_68 (by decide) ?_
      obtain ⟨s_table_8, hc_9, h⟩ := bd1_e h
      refine gd_cv X (gd_V X (As := [.int v1, .int 1]) (rest := []) (c_Tt_startDraft l D K a_table s_table v1 1 s_table_8 hc_9) 2 (gi_V ml_Ch_136 u_Tt_startDraft) rfl ⟨rfl, rfl⟩ (by decide +kernel) ⟨by decide, by decide⟩ (ci := 2) rfl rfl rfl rfl rfl rfl (Nat.le_of_ble_eq_true rfl) ⟨Nat.zero_le _, Nat.zero_le _⟩ d_Ch_offerUnit_69) (w2 := [wd_Ch K a_self (a_grammar 0) (a_table 0) s_self, wd_Gr K a_grammar s_grammar, wd_Tt K a_table s_table_8]) [2] [0, 1] rfl rfl rfl rfl ⟨rfl, rfl⟩ rfl ?_
      refine gd_aload_n X d_Ch_offerUnit_72 1 rfl ?_
      refine gd_get X (ci := 3) (C := R_Ch) (T := F_Ch) (N := 12) (v := .ref (a_table 0)) 0 0 rfl rfl rfl (in_Ch _) 1 (by decide) (List.mem_cons_of_mem _ fl_Ch_18) rfl rfl d_Ch_offerUnit_73 ?_
      refine gd_iconst X (v := 0) d_Ch_offerUnit_76 (by decide) ?_
      refine gd_iload X d_Ch_offerUnit_77 0 rfl ?_
      obtain ⟨s_table_10, hc_11, h⟩ := bd1_e h
      refine gd_cv X (gd_V X (As := [.int 0, .int r_2]) (rest := []) (c_Tt_setDraftPart l D K a_table s_table_8 0 r_2 s_table_10 hc_11) 2 (gi_V ml_Ch_173 u_Tt_setDraftPart) rfl ⟨rfl, rfl⟩ (by decide +kernel) ⟨by decide, by decide⟩ (ci := 2) rfl rfl rfl rfl rfl rfl (Nat.le_of_ble_eq_true rfl) ⟨Nat.zero_le _, Nat.zero_le _⟩ d_Ch_offerUnit_79) (w2 := [wd_Ch K a_self (a_grammar 0) (a_table 0) s_self, wd_Gr K a_grammar s_grammar, wd_Tt K a_table s_table_10]) [2] [0, 1] rfl rfl rfl rfl ⟨rfl, rfl⟩ rfl ?_
      refine gd_aload_n X d_Ch_offerUnit_82 1 rfl ?_
      refine gd_get X (ci := 3) (C := R_Ch) (T := F_Ch) (N := 12) (v := .ref (a_table 0)) 0 0 rfl rfl rfl (in_Ch _) 1 (by decide) (List.mem_cons_of_mem _ fl_Ch_18) rfl rfl d_Ch_offerUnit_83 ?_
      refine gd_iload X d_Ch_offerUnit_86 4 rfl ?_
      obtain ⟨s_table_12, hc_13, h⟩ := bd1_e h
      refine gd_cv X (gd_V X (As := [.int v5]) (rest := []) (c_Tt_offerDraft l D K a_table N s_table_10 v5 s_table_12 hc_13) 1 (gi_V ml_Ch_139 u_Tt_offerDraft) rfl ⟨rfl, rfl⟩ (by decide +kernel) ⟨by decide, by decide⟩ (ci := 2) rfl rfl rfl rfl rfl rfl (Nat.le_of_ble_eq_true rfl) ⟨Nat.zero_le _, Nat.zero_le _⟩ d_Ch_offerUnit_88) (w2 := [wd_Ch K a_self (a_grammar 0) (a_table 0) s_self, wd_Gr K a_grammar s_grammar, wd_Tt K a_table s_table_12]) [2] [0, 1] rfl rfl rfl rfl ⟨rfl, rfl⟩ rfl ?_
      obtain ⟨v7_14, ev7_14, h⟩ := nm_e' h
      refine gd_iinc X (v := v7_14) (lv' := [(7, .int v7_14), (8, .int r_2), (0, .ref (a_self 0)), (1, .int v1), (4, .int v4), (5, .int v5), (6, .int v6)]) d_Ch_offerUnit_91 (k := 6) rfl (by rw [ev7_14]; rfl) (by decide) rfl ?_
      refine gd_goto X (tgt := 34) d_Ch_offerUnit_94 (by decide) ?_
      refine gd_loc (lv' := [(0, .ref (a_self 0)), (1, .int v1), (4, .int v4), (5, .int v5), (6, .int v6), (7, .int v7_14)]) [2, 3, 4, 5, 6, 0] rfl ?_
      exact hkb s_table_12 v7_14 h
def f_Ch_offerUnit_97 (N : Nat) (s_self s_grammar s_table : Nat → Nat → Int32) : Option ((Nat → Nat → Int32)) :=
  some s_table
set_option maxHeartbeats 4000000 in
set_option maxRecDepth 100000 in
theorem t_Ch_offerUnit_97 {p : Program} {l : Launch} {e : Env} {s : State} {m : MethodId} {args : Array Value} {below : List Frame} {meth : Method} {c : Code} {A : Nat → Prop} {D : va_G} {K : Nat → ClassId} (a_self a_grammar a_table : Nat → Nat) (X : gx p s m args c b_Ch_offerUnit 9 R_Ch w_Ch_offerUnit D classes (tyK K) A) (hr : meth.sig.returnType = none) (hlk : meth.locks = false) (N : Nat) (f_table : Nat → Nat → Int32) (s_self s_grammar s_table : Nat → Nat → Int32) (h : f_Ch_offerUnit_97 N s_self s_grammar s_table = some f_table) : Gd p l e rm_Ch_offerUnit s m args below meth c 0 0 (MQ below (sq D classes (tyK K) none [wd_Ch K a_self (a_grammar 0) (a_table 0) s_self, wd_Gr K a_grammar s_grammar, wd_Tt K a_table f_table] A) args s 0 0 A) D classes A 9 97 [wd_Ch K a_self (a_grammar 0) (a_table 0) s_self, wd_Gr K a_grammar s_grammar, wd_Tt K a_table s_table] [] [] := by
  unfold f_Ch_offerUnit_97 at h
  cases h
  exact gd_vret X hr hlk d_Ch_offerUnit_97
def l_Ch_offerUnit_34 (N : Nat) (s_self s_grammar : Nat → Nat → Int32) (v1 v4 v5 v6 : Int32) (kx97 : (Nat → Nat → Int32) → Option ((Nat → Nat → Int32))) : Nat → (Nat → Nat → Int32) → Int32 → Option ((Nat → Nat → Int32))
  | 0, _, _ => none
  | n + 1, s_table, v7 => f_Ch_offerUnit_34 N (l_Ch_offerUnit_34 N s_self s_grammar v1 v4 v5 v6 kx97 n) kx97 s_self s_grammar s_table v1 v4 v5 v6 v7
set_option maxHeartbeats 4000000 in
set_option maxRecDepth 100000 in
theorem tl_Ch_offerUnit_34 {p : Program} {l : Launch} {e : Env} {s : State} {m : MethodId} {args : Array Value} {below : List Frame} {meth : Method} {c : Code} {A : Nat → Prop} {D : va_G} {K : Nat → ClassId} (a_self a_grammar a_table : Nat → Nat) (X : gx p s m args c b_Ch_offerUnit 9 R_Ch w_Ch_offerUnit D classes (tyK K) A) (hr : meth.sig.returnType = none) (hlk : meth.locks = false) (N : Nat) (f_table : Nat → Nat → Int32) (s_self s_grammar : Nat → Nat → Int32) (v1 v4 v5 v6 : Int32) (kx97 : (Nat → Nat → Int32) → Option ((Nat → Nat → Int32))) (hkx97 : ∀ (s_table : Nat → Nat → Int32), kx97 s_table = some f_table → Gd p l e rm_Ch_offerUnit s m args below meth c 0 0 (MQ below (sq D classes (tyK K) none [wd_Ch K a_self (a_grammar 0) (a_table 0) s_self, wd_Gr K a_grammar s_grammar, wd_Tt K a_table f_table] A) args s 0 0 A) D classes A 9 97 [wd_Ch K a_self (a_grammar 0) (a_table 0) s_self, wd_Gr K a_grammar s_grammar, wd_Tt K a_table s_table] [] []) : ∀ (n : Nat) (s_table : Nat → Nat → Int32) (v7 : Int32), l_Ch_offerUnit_34 N s_self s_grammar v1 v4 v5 v6 kx97 n s_table v7 = some f_table → Gd p l e rm_Ch_offerUnit s m args below meth c 0 0 (MQ below (sq D classes (tyK K) none [wd_Ch K a_self (a_grammar 0) (a_table 0) s_self, wd_Gr K a_grammar s_grammar, wd_Tt K a_table f_table] A) args s 0 0 A) D classes A 9 34 [wd_Ch K a_self (a_grammar 0) (a_table 0) s_self, wd_Gr K a_grammar s_grammar, wd_Tt K a_table s_table] [(0, .ref (a_self 0)), (1, .int v1), (4, .int v4), (5, .int v5), (6, .int v6), (7, .int v7)] [] := by
  intro n
  induction n with
  | zero => intro s_table v7 h; have h : (none : Option ((Nat → Nat → Int32))) = some _ := h; cases h
  | succ n ih =>
    intro s_table v7 h
    exact t_Ch_offerUnit_34 a_self a_grammar a_table X hr hlk N f_table s_self s_grammar s_table v1 v4 v5 v6 v7 (l_Ch_offerUnit_34 N s_self s_grammar v1 v4 v5 v6 kx97 n) ih kx97 hkx97 h
def f_Ch_offerUnit_0 (N : Nat) (s_self s_grammar s_table : Nat → Nat → Int32) (v1 v2 v3 v4 : Int32) : Option ((Nat → Nat → Int32)) :=
  bd1 (m_Gr_sortOfCode s_grammar v1) fun r_1 =>
  bd1 (m_Ch_cellOf r_1 v2 v3) fun r_3 =>
  bd1 (m_Gr_sortOfSlot s_grammar v1 0) fun r_5 =>
  bd1 (m_Ch_cellOf r_5 v2 v3) fun r_7 =>
  l_Ch_offerUnit_34 N s_self s_grammar v1 v4 r_3 r_7 (fun s_table => f_Ch_offerUnit_97 N s_self s_grammar s_table) N s_table 0
set_option maxHeartbeats 4000000 in
set_option maxRecDepth 100000 in
theorem t_Ch_offerUnit_0 {p : Program} {l : Launch} {e : Env} {s : State} {m : MethodId} {args : Array Value} {below : List Frame} {meth : Method} {c : Code} {A : Nat → Prop} {D : va_G} {K : Nat → ClassId} (a_self a_grammar a_table : Nat → Nat) (X : gx p s m args c b_Ch_offerUnit 9 R_Ch w_Ch_offerUnit D classes (tyK K) A) (hr : meth.sig.returnType = none) (hlk : meth.locks = false) (N : Nat) (f_table : Nat → Nat → Int32) (s_self s_grammar s_table : Nat → Nat → Int32) (v1 v2 v3 v4 : Int32) (h : f_Ch_offerUnit_0 N s_self s_grammar s_table v1 v2 v3 v4 = some f_table) : Gd p l e rm_Ch_offerUnit s m args below meth c 0 0 (MQ below (sq D classes (tyK K) none [wd_Ch K a_self (a_grammar 0) (a_table 0) s_self, wd_Gr K a_grammar s_grammar, wd_Tt K a_table f_table] A) args s 0 0 A) D classes A 9 0 [wd_Ch K a_self (a_grammar 0) (a_table 0) s_self, wd_Gr K a_grammar s_grammar, wd_Tt K a_table s_table] [(0, .ref (a_self 0)), (1, .int v1), (2, .int v2), (3, .int v3), (4, .int v4)] [] := by
  unfold f_Ch_offerUnit_0 at h
  refine gd_aload_n X d_Ch_offerUnit_0 0 rfl ?_
  refine gd_get X (ci := 3) (C := R_Ch) (T := F_Ch) (N := 12) (v := .ref (a_grammar 0)) 0 0 rfl rfl rfl (in_Ch _) 0 (by decide) (List.mem_cons_of_mem _ fl_Ch_9) rfl rfl d_Ch_offerUnit_1 ?_
  refine gd_iload_n X d_Ch_offerUnit_4 1 rfl ?_
  obtain ⟨r_1, hc_2, h⟩ := bd1_e h
  refine gd_pI X (gd_V X (As := [.int v1]) (rest := []) (c_Gr_sortOfCode l D K a_grammar s_grammar v1 r_1 hc_2) 1 (gi_V ml_Ch_97 u_Gr_sortOfCode) rfl ⟨rfl, rfl⟩ (by decide +kernel) ⟨by decide, by decide⟩ (ci := 1) rfl rfl rfl rfl rfl rfl (Nat.le_of_ble_eq_true rfl) ⟨Nat.zero_le _, Nat.zero_le _⟩ d_Ch_offerUnit_5) [1] rfl rfl ?_
  refine gd_iload_n X d_Ch_offerUnit_8 2 rfl ?_
  refine gd_iload_n X d_Ch_offerUnit_9 3 rfl ?_
  obtain ⟨r_3, hc_4, h⟩ := bd1_e h
  refine gd_pI X (gd_Sc X (As := [.int r_1, .int v2, .int v3]) (rest := []) (c_Ch_cellOf l D K r_1 v2 v3 r_3 hc_4) 3 (gi_S ml_Ch_44 u_Ch_cellOf) rfl ⟨rfl, rfl⟩ (by decide +kernel) ⟨by decide, by decide⟩ rfl rfl (Nat.le_of_ble_eq_true rfl) ⟨Nat.zero_le _, Nat.zero_le _⟩ d_Ch_offerUnit_10) [] rfl rfl ?_
  refine gd_istore X (lv' := [(5, .int r_3), (0, .ref (a_self 0)), (1, .int v1), (2, .int v2), (3, .int v3), (4, .int v4)]) d_Ch_offerUnit_13 (by decide) rfl ?_
  refine gd_aload_n X d_Ch_offerUnit_15 1 rfl ?_
  refine gd_get X (ci := 3) (C := R_Ch) (T := F_Ch) (N := 12) (v := .ref (a_grammar 0)) 0 0 rfl rfl rfl (in_Ch _) 0 (by decide) (List.mem_cons_of_mem _ fl_Ch_9) rfl rfl d_Ch_offerUnit_16 ?_
  refine gd_iload_n X d_Ch_offerUnit_19 2 rfl ?_
  refine gd_iconst X (v := 0) d_Ch_offerUnit_20 (by decide) ?_
  obtain ⟨r_5, hc_6, h⟩ := bd1_e h
  refine gd_pI X (gd_V X (As := [.int v1, .int 0]) (rest := []) (c_Gr_sortOfSlot l D K a_grammar s_grammar v1 0 r_5 hc_6) 2 (gi_V ml_Ch_100 u_Gr_sortOfSlot) rfl ⟨rfl, rfl⟩ (by decide +kernel) ⟨by decide, by decide⟩ (ci := 1) rfl rfl rfl rfl rfl rfl (Nat.le_of_ble_eq_true rfl) ⟨Nat.zero_le _, Nat.zero_le _⟩ d_Ch_offerUnit_21) [1] rfl rfl ?_
  refine gd_iload_n X d_Ch_offerUnit_24 3 rfl ?_
  refine gd_iload_n X d_Ch_offerUnit_25 4 rfl ?_
  obtain ⟨r_7, hc_8, h⟩ := bd1_e h
  refine gd_pI X (gd_Sc X (As := [.int r_5, .int v2, .int v3]) (rest := []) (c_Ch_cellOf l D K r_5 v2 v3 r_7 hc_8) 3 (gi_S ml_Ch_44 u_Ch_cellOf) rfl ⟨rfl, rfl⟩ (by decide +kernel) ⟨by decide, by decide⟩ rfl rfl (Nat.le_of_ble_eq_true rfl) ⟨Nat.zero_le _, Nat.zero_le _⟩ d_Ch_offerUnit_26) [] rfl rfl ?_
  refine gd_istore X (lv' := [(6, .int r_7), (5, .int r_3), (0, .ref (a_self 0)), (1, .int v1), (2, .int v2), (3, .int v3), (4, .int v4)]) d_Ch_offerUnit_29 (by decide) rfl ?_
  refine gd_iconst X (v := 0) d_Ch_offerUnit_31 (by decide) ?_
  refine gd_istore X (lv' := [(7, .int 0), (6, .int r_7), (5, .int r_3), (0, .ref (a_self 0)), (1, .int v1), (2, .int v2), (3, .int v3), (4, .int v4)]) d_Ch_offerUnit_32 (by decide) rfl ?_
  refine gd_loc (lv' := [(0, .ref (a_self 0)), (1, .int v1), (4, .int v4), (5, .int r_3), (6, .int r_7), (7, .int 0)]) [3, 4, 7, 2, 1, 0] rfl ?_
  exact tl_Ch_offerUnit_34 a_self a_grammar a_table X hr hlk N f_table s_self s_grammar v1 v4 r_3 r_7 (fun s_table => f_Ch_offerUnit_97 N s_self s_grammar s_table) (fun s_table h => t_Ch_offerUnit_97 a_self a_grammar a_table X hr hlk N f_table s_self s_grammar s_table h) N s_table 0 h
def m_Ch_offerUnit (N : Nat) (s_self s_grammar s_table : Nat → Nat → Int32) (v1 v2 v3 v4 : Int32) : Option ((Nat → Nat → Int32)) := f_Ch_offerUnit_0 N s_self s_grammar s_table v1 v2 v3 v4
set_option maxHeartbeats 4000000 in
set_option maxRecDepth 100000 in
theorem c_Ch_offerUnit (l : Launch) (D : va_G) (K : Nat → ClassId) (a_self a_grammar a_table : Nat → Nat) (N : Nat) (s_self s_grammar s_table : Nat → Nat → Int32) (v1 v2 v3 v4 : Int32) (f_table : Nat → Nat → Int32) (h : m_Ch_offerUnit N s_self s_grammar s_table v1 v2 v3 v4 = some f_table) : SMet l y_Ch_offerUnit w_Ch_offerUnit rm_Ch_offerUnit D classes (tyK K) [.ref (a_self 0), .int v1, .int v2, .int v3, .int v4] none [wd_Ch K a_self (a_grammar 0) (a_table 0) s_self, wd_Gr K a_grammar s_grammar, wd_Tt K a_table s_table] [wd_Ch K a_self (a_grammar 0) (a_table 0) s_self, wd_Gr K a_grammar s_grammar, wd_Tt K a_table f_table] := by
  refine sm_of R_Ch (by decide) rfl rfl (Nat.le_of_ble_eq_true rfl) ?_
  intro p e s m below meth c A X hr hlk
  refine gd_loc (lv' := [(0, .ref (a_self 0)), (1, .int v1), (2, .int v2), (3, .int v3), (4, .int v4)]) [0, 1, 2, 3, 4] rfl ?_
  exact t_Ch_offerUnit_0 a_self a_grammar a_table X hr hlk N f_table s_self s_grammar s_table v1 v2 v3 v4 h
abbrev b_Ch_addUnitTrees : ByteArray := prog_2_method_21_code
def y_Ch_addUnitTrees : MethodName := ⟨R_Ch, "addUnitTrees", "(II)V"⟩
def w_Ch_addUnitTrees : List Cond := .code y_Ch_addUnitTrees b_Ch_addUnitTrees 6 none :: TB
theorem k_Ch_addUnitTrees : Cond.code y_Ch_addUnitTrees b_Ch_addUnitTrees 6 none ∈ TB := tb_of 540 (by decide +kernel) (by decide +kernel)
theorem d_Ch_addUnitTrees_0 : decode b_Ch_addUnitTrees 0 = .ok (.aload_n 0, 1) := by decide +kernel
theorem d_Ch_addUnitTrees_1 : decode b_Ch_addUnitTrees 1 = .ok (.iload_n 1, 1) := by decide +kernel
theorem d_Ch_addUnitTrees_2 : decode b_Ch_addUnitTrees 2 = .ok (.iload_n 2, 1) := by decide +kernel
theorem d_Ch_addUnitTrees_3 : decode b_Ch_addUnitTrees 3 = .ok (.iconst 0, 1) := by decide +kernel
theorem d_Ch_addUnitTrees_4 : decode b_Ch_addUnitTrees 4 = .ok (.invokevirtual 180, 3) := by decide +kernel
theorem d_Ch_addUnitTrees_7 : decode b_Ch_addUnitTrees 7 = .ok (.istore_n 3, 1) := by decide +kernel
theorem d_Ch_addUnitTrees_8 : decode b_Ch_addUnitTrees 8 = .ok (.iconst 0, 1) := by decide +kernel
theorem d_Ch_addUnitTrees_9 : decode b_Ch_addUnitTrees 9 = .ok (.istore 4, 2) := by decide +kernel
theorem d_Ch_addUnitTrees_11 : decode b_Ch_addUnitTrees 11 = .ok (.iload 4, 2) := by decide +kernel
theorem d_Ch_addUnitTrees_13 : decode b_Ch_addUnitTrees 13 = .ok (.sipush 150, 3) := by decide +kernel
theorem d_Ch_addUnitTrees_16 : decode b_Ch_addUnitTrees 16 = .ok (.if_icmp .ge 53, 3) := by decide +kernel
theorem d_Ch_addUnitTrees_19 : decode b_Ch_addUnitTrees 19 = .ok (.iload_n 3, 1) := by decide +kernel
theorem d_Ch_addUnitTrees_20 : decode b_Ch_addUnitTrees 20 = .ok (.ifCond .le 49, 3) := by decide +kernel
theorem d_Ch_addUnitTrees_23 : decode b_Ch_addUnitTrees 23 = .ok (.iconst 0, 1) := by decide +kernel
theorem d_Ch_addUnitTrees_24 : decode b_Ch_addUnitTrees 24 = .ok (.istore 5, 2) := by decide +kernel
theorem d_Ch_addUnitTrees_26 : decode b_Ch_addUnitTrees 26 = .ok (.iload 5, 2) := by decide +kernel
theorem d_Ch_addUnitTrees_28 : decode b_Ch_addUnitTrees 28 = .ok (.aload_n 0, 1) := by decide +kernel
theorem d_Ch_addUnitTrees_29 : decode b_Ch_addUnitTrees 29 = .ok (.getfield 94, 3) := by decide +kernel
theorem d_Ch_addUnitTrees_32 : decode b_Ch_addUnitTrees 32 = .ok (.if_icmp .ge 23, 3) := by decide +kernel
theorem d_Ch_addUnitTrees_35 : decode b_Ch_addUnitTrees 35 = .ok (.aload_n 0, 1) := by decide +kernel
theorem d_Ch_addUnitTrees_36 : decode b_Ch_addUnitTrees 36 = .ok (.aload_n 0, 1) := by decide +kernel
theorem d_Ch_addUnitTrees_37 : decode b_Ch_addUnitTrees 37 = .ok (.getfield 29, 3) := by decide +kernel
theorem d_Ch_addUnitTrees_40 : decode b_Ch_addUnitTrees 40 = .ok (.iload 5, 2) := by decide +kernel
theorem d_Ch_addUnitTrees_42 : decode b_Ch_addUnitTrees 42 = .ok (.iaload, 1) := by decide +kernel
theorem d_Ch_addUnitTrees_43 : decode b_Ch_addUnitTrees 43 = .ok (.iload_n 1, 1) := by decide +kernel
theorem d_Ch_addUnitTrees_44 : decode b_Ch_addUnitTrees 44 = .ok (.iload_n 2, 1) := by decide +kernel
theorem d_Ch_addUnitTrees_45 : decode b_Ch_addUnitTrees 45 = .ok (.iload_n 3, 1) := by decide +kernel
theorem d_Ch_addUnitTrees_46 : decode b_Ch_addUnitTrees 46 = .ok (.invokevirtual 183, 3) := by decide +kernel
theorem d_Ch_addUnitTrees_49 : decode b_Ch_addUnitTrees 49 = .ok (.iinc 5 1, 3) := by decide +kernel
theorem d_Ch_addUnitTrees_52 : decode b_Ch_addUnitTrees 52 = .ok (.goto (-26), 3) := by decide +kernel
theorem d_Ch_addUnitTrees_55 : decode b_Ch_addUnitTrees 55 = .ok (.aload_n 0, 1) := by decide +kernel
theorem d_Ch_addUnitTrees_56 : decode b_Ch_addUnitTrees 56 = .ok (.iload_n 1, 1) := by decide +kernel
theorem d_Ch_addUnitTrees_57 : decode b_Ch_addUnitTrees 57 = .ok (.iload_n 2, 1) := by decide +kernel
theorem d_Ch_addUnitTrees_58 : decode b_Ch_addUnitTrees 58 = .ok (.iload_n 3, 1) := by decide +kernel
theorem d_Ch_addUnitTrees_59 : decode b_Ch_addUnitTrees 59 = .ok (.invokevirtual 180, 3) := by decide +kernel
theorem d_Ch_addUnitTrees_62 : decode b_Ch_addUnitTrees 62 = .ok (.istore_n 3, 1) := by decide +kernel
theorem d_Ch_addUnitTrees_63 : decode b_Ch_addUnitTrees 63 = .ok (.iinc 4 1, 3) := by decide +kernel
theorem d_Ch_addUnitTrees_66 : decode b_Ch_addUnitTrees 66 = .ok (.goto (-55), 3) := by decide +kernel
theorem d_Ch_addUnitTrees_69 : decode b_Ch_addUnitTrees 69 = .ok (.return_, 1) := by decide +kernel
theorem fl_Ch_94 : Cond.fieldLink R_Ch 94 "RuleTrees$Chart" "units" "I" ∈ TB := tb_of 167 (by decide +kernel) (by decide +kernel)
theorem fl_Ch_29 : Cond.fieldLink R_Ch 29 "RuleTrees$Chart" "unitRules" "[I" ∈ TB := tb_of 166 (by decide +kernel) (by decide +kernel)
theorem ml_Ch_183 : Cond.methodLink R_Ch 183 ⟨"RuleTrees$Chart", "offerUnit", "(IIII)V"⟩ ∈ TB := tb_of 545 (by decide +kernel) (by decide +kernel)
theorem u_Ch_offerUnit : (Cond.instanceMethod y_Ch_offerUnit ∈ TB ∧ Cond.selects R_Ch y_Ch_offerUnit y_Ch_offerUnit ∈ TB) ∧ Cond.initialized R_Ch ∈ TB ∧ Cond.code y_Ch_offerUnit b_Ch_offerUnit 9 none ∈ TB := ⟨⟨(tb_of 547 (by decide +kernel) (by decide +kernel)), (tb_of 21 (by decide +kernel) (by decide +kernel))⟩, (tb_of 64 (by decide +kernel) (by decide +kernel)), k_Ch_offerUnit⟩
theorem ml_Ch_180 : Cond.methodLink R_Ch 180 ⟨"RuleTrees$Chart", "nextSize", "(III)I"⟩ ∈ TB := tb_of 541 (by decide +kernel) (by decide +kernel)
theorem u_Ch_nextSize : (Cond.instanceMethod y_Ch_nextSize ∈ TB ∧ Cond.selects R_Ch y_Ch_nextSize y_Ch_nextSize ∈ TB) ∧ Cond.initialized R_Ch ∈ TB ∧ Cond.code y_Ch_nextSize b_Ch_nextSize 8 (some .int) ∈ TB := ⟨⟨(tb_of 543 (by decide +kernel) (by decide +kernel)), (tb_of 20 (by decide +kernel) (by decide +kernel))⟩, (tb_of 64 (by decide +kernel) (by decide +kernel)), k_Ch_nextSize⟩
abbrev rm_Ch_addUnitTrees : Room := { frames := 4, cells := 0, slots := 0, locals := 102 }
def f_Ch_addUnitTrees_26 (N : Nat) (kb : (Nat → Nat → Int32) → Int32 → Option ((Nat → Nat → Int32))) (kx55 : (Nat → Nat → Int32) → Option ((Nat → Nat → Int32))) (s_self s_grammar s_table : Nat → Nat → Int32) (v1 v2 v3 v4 v5 : Int32) : Option ((Nat → Nat → Int32)) :=
  if (s_self 0 7) ≤ v5 then
    kx55 s_table
  else
    ck v5 30 <|
    bd1 (m_Ch_offerUnit N s_self s_grammar s_table (s_self 3 (Int32.toNatClampNeg v5)) v1 v2 v3) fun s_table_3 =>
    nm (v5 + 1) fun v5_5 =>
    kb s_table_3 v5_5
set_option maxHeartbeats 4000000 in
set_option maxRecDepth 100000 in
theorem t_Ch_addUnitTrees_26 {p : Program} {l : Launch} {e : Env} {s : State} {m : MethodId} {args : Array Value} {below : List Frame} {meth : Method} {c : Code} {A : Nat → Prop} {D : va_G} {K : Nat → ClassId} (a_self a_grammar a_table : Nat → Nat) (X : gx p s m args c b_Ch_addUnitTrees 6 R_Ch w_Ch_addUnitTrees D classes (tyK K) A) (hr : meth.sig.returnType = none) (hlk : meth.locks = false) (N : Nat) (f_table : Nat → Nat → Int32) (s_self s_grammar s_table : Nat → Nat → Int32) (v1 v2 v3 v4 v5 : Int32) (kb : (Nat → Nat → Int32) → Int32 → Option ((Nat → Nat → Int32))) (hkb : ∀ (s_table : Nat → Nat → Int32) (v5 : Int32), kb s_table v5 = some f_table → Gd p l e rm_Ch_addUnitTrees s m args below meth c 0 0 (MQ below (sq D classes (tyK K) none [wd_Ch K a_self (a_grammar 0) (a_table 0) s_self, wd_Gr K a_grammar s_grammar, wd_Tt K a_table f_table] A) args s 0 0 A) D classes A 6 26 [wd_Ch K a_self (a_grammar 0) (a_table 0) s_self, wd_Gr K a_grammar s_grammar, wd_Tt K a_table s_table] [(0, .ref (a_self 0)), (1, .int v1), (2, .int v2), (3, .int v3), (4, .int v4), (5, .int v5)] []) (kx55 : (Nat → Nat → Int32) → Option ((Nat → Nat → Int32))) (hkx55 : ∀ (s_table : Nat → Nat → Int32), kx55 s_table = some f_table → Gd p l e rm_Ch_addUnitTrees s m args below meth c 0 0 (MQ below (sq D classes (tyK K) none [wd_Ch K a_self (a_grammar 0) (a_table 0) s_self, wd_Gr K a_grammar s_grammar, wd_Tt K a_table f_table] A) args s 0 0 A) D classes A 6 55 [wd_Ch K a_self (a_grammar 0) (a_table 0) s_self, wd_Gr K a_grammar s_grammar, wd_Tt K a_table s_table] [(0, .ref (a_self 0)), (1, .int v1), (2, .int v2), (3, .int v3), (4, .int v4)] []) (h : f_Ch_addUnitTrees_26 N kb kx55 s_self s_grammar s_table v1 v2 v3 v4 v5 = some f_table) : Gd p l e rm_Ch_addUnitTrees s m args below meth c 0 0 (MQ below (sq D classes (tyK K) none [wd_Ch K a_self (a_grammar 0) (a_table 0) s_self, wd_Gr K a_grammar s_grammar, wd_Tt K a_table f_table] A) args s 0 0 A) D classes A 6 26 [wd_Ch K a_self (a_grammar 0) (a_table 0) s_self, wd_Gr K a_grammar s_grammar, wd_Tt K a_table s_table] [(0, .ref (a_self 0)), (1, .int v1), (2, .int v2), (3, .int v3), (4, .int v4), (5, .int v5)] [] := by
  unfold f_Ch_addUnitTrees_26 at h
  refine gd_iload X d_Ch_addUnitTrees_26 5 rfl ?_
  refine gd_aload_n X d_Ch_addUnitTrees_28 0 rfl ?_
  refine gd_get X (ci := 3) (C := R_Ch) (T := F_Ch) (N := 12) (v := .int (s_self 0 7)) 0 0 rfl rfl rfl (in_Ch _) 7 (by decide) (List.mem_cons_of_mem _ fl_Ch_94) rfl rfl d_Ch_addUnitTrees_29 ?_
  refine gd_icmp_ge X (tgt := 55) d_Ch_addUnitTrees_32 (by decide) (fun c_1 => ?_) (fun c_1 => ?_)
  · replace h := it_p c_1 h
    refine gd_loc (lv' := [(0, .ref (a_self 0)), (1, .int v1), (2, .int v2), (3, .int v3), (4, .int v4)]) [0, 1, 2, 3, 4] rfl ?_
    exact hkx55 s_table h
  · replace h := it_n c_1 h
    refine gd_aload_n X d_Ch_addUnitTrees_35 0 rfl ?_
    refine gd_aload_n X d_Ch_addUnitTrees_36 0 rfl ?_
    refine gd_get X (ci := 3) (C := R_Ch) (T := F_Ch) (N := 12) (v := .ref (a_self 3)) 0 0 rfl rfl rfl (in_Ch _) 6 (by decide) (List.mem_cons_of_mem _ fl_Ch_29) rfl rfl d_Ch_addUnitTrees_37 ?_
    refine gd_iload X d_Ch_addUnitTrees_40 5 rfl ?_
    obtain ⟨hi_2, h⟩ := ck_e h
    refine gd_iald X 0 3 0 rfl rfl rfl hi_2 d_Ch_addUnitTrees_42 ?_
    refine gd_iload_n X d_Ch_addUnitTrees_43 1 rfl ?_
    refine gd_iload_n X d_Ch_addUnitTrees_44 2 rfl ?_
    refine gd_iload_n X d_Ch_addUnitTrees_45 3 rfl ?_
    obtain ⟨s_table_3, hc_4, h⟩ := bd1_e h
    refine gd_fv X (w1 := [wd_Ch K a_self (a_grammar 0) (a_table 0) s_self, wd_Gr K a_grammar s_grammar, wd_Tt K a_table s_table_3]) (gd_V X (As := [.int (s_self 3 (Int32.toNatClampNeg v5)), .int v1, .int v2, .int v3]) (rest := []) (c_Ch_offerUnit l D K a_self a_grammar a_table N s_self s_grammar s_table (s_self 3 (Int32.toNatClampNeg v5)) v1 v2 v3 s_table_3 hc_4) 4 (gi_V ml_Ch_183 u_Ch_offerUnit) rfl ⟨rfl, rfl⟩ (by decide +kernel) ⟨by decide, by decide⟩ (ci := 3) rfl rfl rfl rfl rfl rfl (Nat.le_of_ble_eq_true rfl) ⟨Nat.zero_le _, Nat.zero_le _⟩ d_Ch_addUnitTrees_46) ?_
    obtain ⟨v5_5, ev5_5, h⟩ := nm_e' h
    refine gd_iinc X (v := v5_5) (lv' := [(5, .int v5_5), (0, .ref (a_self 0)), (1, .int v1), (2, .int v2), (3, .int v3), (4, .int v4)]) d_Ch_addUnitTrees_49 (k := 5) rfl (by rw [ev5_5]; rfl) (by decide) rfl ?_
    refine gd_goto X (tgt := 26) d_Ch_addUnitTrees_52 (by decide) ?_
    refine gd_loc (lv' := [(0, .ref (a_self 0)), (1, .int v1), (2, .int v2), (3, .int v3), (4, .int v4), (5, .int v5_5)]) [1, 2, 3, 4, 5, 0] rfl ?_
    exact hkb s_table_3 v5_5 h
def f_Ch_addUnitTrees_55 (N : Nat) (kb : (Nat → Nat → Int32) → Int32 → Int32 → Option ((Nat → Nat → Int32))) (kx69 : (Nat → Nat → Int32) → Option ((Nat → Nat → Int32))) (s_self s_grammar s_table : Nat → Nat → Int32) (v1 v2 v3 v4 : Int32) : Option ((Nat → Nat → Int32)) :=
  bd1 (m_Ch_nextSize N s_self s_table v1 v2 v3) fun r_1 =>
  nm (v4 + 1) fun v4_3 =>
  kb s_table r_1 v4_3
set_option maxHeartbeats 4000000 in
set_option maxRecDepth 100000 in
theorem t_Ch_addUnitTrees_55 {p : Program} {l : Launch} {e : Env} {s : State} {m : MethodId} {args : Array Value} {below : List Frame} {meth : Method} {c : Code} {A : Nat → Prop} {D : va_G} {K : Nat → ClassId} (a_self a_grammar a_table : Nat → Nat) (X : gx p s m args c b_Ch_addUnitTrees 6 R_Ch w_Ch_addUnitTrees D classes (tyK K) A) (hr : meth.sig.returnType = none) (hlk : meth.locks = false) (N : Nat) (f_table : Nat → Nat → Int32) (s_self s_grammar s_table : Nat → Nat → Int32) (v1 v2 v3 v4 : Int32) (kb : (Nat → Nat → Int32) → Int32 → Int32 → Option ((Nat → Nat → Int32))) (hkb : ∀ (s_table : Nat → Nat → Int32) (v3 v4 : Int32), kb s_table v3 v4 = some f_table → Gd p l e rm_Ch_addUnitTrees s m args below meth c 0 0 (MQ below (sq D classes (tyK K) none [wd_Ch K a_self (a_grammar 0) (a_table 0) s_self, wd_Gr K a_grammar s_grammar, wd_Tt K a_table f_table] A) args s 0 0 A) D classes A 6 11 [wd_Ch K a_self (a_grammar 0) (a_table 0) s_self, wd_Gr K a_grammar s_grammar, wd_Tt K a_table s_table] [(0, .ref (a_self 0)), (1, .int v1), (2, .int v2), (3, .int v3), (4, .int v4)] []) (kx69 : (Nat → Nat → Int32) → Option ((Nat → Nat → Int32))) (hkx69 : ∀ (s_table : Nat → Nat → Int32), kx69 s_table = some f_table → Gd p l e rm_Ch_addUnitTrees s m args below meth c 0 0 (MQ below (sq D classes (tyK K) none [wd_Ch K a_self (a_grammar 0) (a_table 0) s_self, wd_Gr K a_grammar s_grammar, wd_Tt K a_table f_table] A) args s 0 0 A) D classes A 6 69 [wd_Ch K a_self (a_grammar 0) (a_table 0) s_self, wd_Gr K a_grammar s_grammar, wd_Tt K a_table s_table] [] []) (h : f_Ch_addUnitTrees_55 N kb kx69 s_self s_grammar s_table v1 v2 v3 v4 = some f_table) : Gd p l e rm_Ch_addUnitTrees s m args below meth c 0 0 (MQ below (sq D classes (tyK K) none [wd_Ch K a_self (a_grammar 0) (a_table 0) s_self, wd_Gr K a_grammar s_grammar, wd_Tt K a_table f_table] A) args s 0 0 A) D classes A 6 55 [wd_Ch K a_self (a_grammar 0) (a_table 0) s_self, wd_Gr K a_grammar s_grammar, wd_Tt K a_table s_table] [(0, .ref (a_self 0)), (1, .int v1), (2, .int v2), (3, .int v3), (4, .int v4)] [] := by
  unfold f_Ch_addUnitTrees_55 at h
  refine gd_aload_n X d_Ch_addUnitTrees_55 0 rfl ?_
  refine gd_iload_n X d_Ch_addUnitTrees_56 1 rfl ?_
  refine gd_iload_n X d_Ch_addUnitTrees_57 2 rfl ?_
  refine gd_iload_n X d_Ch_addUnitTrees_58 3 rfl ?_
  obtain ⟨r_1, hc_2, h⟩ := bd1_e h
  refine gd_pI X (gd_V X (As := [.int v1, .int v2, .int v3]) (rest := []) (c_Ch_nextSize l D K a_self a_grammar a_table N s_self s_table v1 v2 v3 r_1 hc_2) 3 (gi_V ml_Ch_180 u_Ch_nextSize) rfl ⟨rfl, rfl⟩ (by decide +kernel) ⟨by decide, by decide⟩ (ci := 3) rfl rfl rfl rfl rfl rfl (Nat.le_of_ble_eq_true rfl) ⟨Nat.zero_le _, Nat.zero_le _⟩ d_Ch_addUnitTrees_59) [0, 2] rfl rfl ?_
  refine gd_istore_n X (lv' := [(3, .int r_1), (0, .ref (a_self 0)), (1, .int v1), (2, .int v2), (4, .int v4)]) d_Ch_addUnitTrees_62 rfl (by decide) rfl ?_
  obtain ⟨v4_3, ev4_3, h⟩ := nm_e' h
  refine gd_iinc X (v := v4_3) (lv' := [(4, .int v4_3), (3, .int r_1), (0, .ref (a_self 0)), (1, .int v1), (2, .int v2)]) d_Ch_addUnitTrees_63 (k := 4) rfl (by rw [ev4_3]; rfl) (by decide) rfl ?_
  refine gd_goto X (tgt := 11) d_Ch_addUnitTrees_66 (by decide) ?_
  refine gd_loc (lv' := [(0, .ref (a_self 0)), (1, .int v1), (2, .int v2), (3, .int r_1), (4, .int v4_3)]) [2, 3, 4, 1, 0] rfl ?_
  exact hkb s_table r_1 v4_3 h
def l_Ch_addUnitTrees_26 (N : Nat) (s_self s_grammar : Nat → Nat → Int32) (v1 v2 v3 v4 : Int32) (kx55 : (Nat → Nat → Int32) → Option ((Nat → Nat → Int32))) : Nat → (Nat → Nat → Int32) → Int32 → Option ((Nat → Nat → Int32))
  | 0, _, _ => none
  | n + 1, s_table, v5 => f_Ch_addUnitTrees_26 N (l_Ch_addUnitTrees_26 N s_self s_grammar v1 v2 v3 v4 kx55 n) kx55 s_self s_grammar s_table v1 v2 v3 v4 v5
set_option maxHeartbeats 4000000 in
set_option maxRecDepth 100000 in
theorem tl_Ch_addUnitTrees_26 {p : Program} {l : Launch} {e : Env} {s : State} {m : MethodId} {args : Array Value} {below : List Frame} {meth : Method} {c : Code} {A : Nat → Prop} {D : va_G} {K : Nat → ClassId} (a_self a_grammar a_table : Nat → Nat) (X : gx p s m args c b_Ch_addUnitTrees 6 R_Ch w_Ch_addUnitTrees D classes (tyK K) A) (hr : meth.sig.returnType = none) (hlk : meth.locks = false) (N : Nat) (f_table : Nat → Nat → Int32) (s_self s_grammar : Nat → Nat → Int32) (v1 v2 v3 v4 : Int32) (kx55 : (Nat → Nat → Int32) → Option ((Nat → Nat → Int32))) (hkx55 : ∀ (s_table : Nat → Nat → Int32), kx55 s_table = some f_table → Gd p l e rm_Ch_addUnitTrees s m args below meth c 0 0 (MQ below (sq D classes (tyK K) none [wd_Ch K a_self (a_grammar 0) (a_table 0) s_self, wd_Gr K a_grammar s_grammar, wd_Tt K a_table f_table] A) args s 0 0 A) D classes A 6 55 [wd_Ch K a_self (a_grammar 0) (a_table 0) s_self, wd_Gr K a_grammar s_grammar, wd_Tt K a_table s_table] [(0, .ref (a_self 0)), (1, .int v1), (2, .int v2), (3, .int v3), (4, .int v4)] []) : ∀ (n : Nat) (s_table : Nat → Nat → Int32) (v5 : Int32), l_Ch_addUnitTrees_26 N s_self s_grammar v1 v2 v3 v4 kx55 n s_table v5 = some f_table → Gd p l e rm_Ch_addUnitTrees s m args below meth c 0 0 (MQ below (sq D classes (tyK K) none [wd_Ch K a_self (a_grammar 0) (a_table 0) s_self, wd_Gr K a_grammar s_grammar, wd_Tt K a_table f_table] A) args s 0 0 A) D classes A 6 26 [wd_Ch K a_self (a_grammar 0) (a_table 0) s_self, wd_Gr K a_grammar s_grammar, wd_Tt K a_table s_table] [(0, .ref (a_self 0)), (1, .int v1), (2, .int v2), (3, .int v3), (4, .int v4), (5, .int v5)] [] := by
  intro n
  induction n with
  | zero => intro s_table v5 h; have h : (none : Option ((Nat → Nat → Int32))) = some _ := h; cases h
  | succ n ih =>
    intro s_table v5 h
    exact t_Ch_addUnitTrees_26 a_self a_grammar a_table X hr hlk N f_table s_self s_grammar s_table v1 v2 v3 v4 v5 (l_Ch_addUnitTrees_26 N s_self s_grammar v1 v2 v3 v4 kx55 n) ih kx55 hkx55 h
def f_Ch_addUnitTrees_11 (N : Nat) (kb : (Nat → Nat → Int32) → Int32 → Int32 → Option ((Nat → Nat → Int32))) (kx69 : (Nat → Nat → Int32) → Option ((Nat → Nat → Int32))) (s_self s_grammar s_table : Nat → Nat → Int32) (v1 v2 v3 v4 : Int32) : Option ((Nat → Nat → Int32)) :=
  if 150 ≤ v4 then
    kx69 s_table
  else
    if v3 ≤ 0 then
      kx69 s_table
    else
      l_Ch_addUnitTrees_26 N s_self s_grammar v1 v2 v3 v4 (fun s_table => f_Ch_addUnitTrees_55 N kb kx69 s_self s_grammar s_table v1 v2 v3 v4) N s_table 0
set_option maxHeartbeats 4000000 in
set_option maxRecDepth 100000 in
theorem t_Ch_addUnitTrees_11 {p : Program} {l : Launch} {e : Env} {s : State} {m : MethodId} {args : Array Value} {below : List Frame} {meth : Method} {c : Code} {A : Nat → Prop} {D : va_G} {K : Nat → ClassId} (a_self a_grammar a_table : Nat → Nat) (X : gx p s m args c b_Ch_addUnitTrees 6 R_Ch w_Ch_addUnitTrees D classes (tyK K) A) (hr : meth.sig.returnType = none) (hlk : meth.locks = false) (N : Nat) (f_table : Nat → Nat → Int32) (s_self s_grammar s_table : Nat → Nat → Int32) (v1 v2 v3 v4 : Int32) (kb : (Nat → Nat → Int32) → Int32 → Int32 → Option ((Nat → Nat → Int32))) (hkb : ∀ (s_table : Nat → Nat → Int32) (v3 v4 : Int32), kb s_table v3 v4 = some f_table → Gd p l e rm_Ch_addUnitTrees s m args below meth c 0 0 (MQ below (sq D classes (tyK K) none [wd_Ch K a_self (a_grammar 0) (a_table 0) s_self, wd_Gr K a_grammar s_grammar, wd_Tt K a_table f_table] A) args s 0 0 A) D classes A 6 11 [wd_Ch K a_self (a_grammar 0) (a_table 0) s_self, wd_Gr K a_grammar s_grammar, wd_Tt K a_table s_table] [(0, .ref (a_self 0)), (1, .int v1), (2, .int v2), (3, .int v3), (4, .int v4)] []) (kx69 : (Nat → Nat → Int32) → Option ((Nat → Nat → Int32))) (hkx69 : ∀ (s_table : Nat → Nat → Int32), kx69 s_table = some f_table → Gd p l e rm_Ch_addUnitTrees s m args below meth c 0 0 (MQ below (sq D classes (tyK K) none [wd_Ch K a_self (a_grammar 0) (a_table 0) s_self, wd_Gr K a_grammar s_grammar, wd_Tt K a_table f_table] A) args s 0 0 A) D classes A 6 69 [wd_Ch K a_self (a_grammar 0) (a_table 0) s_self, wd_Gr K a_grammar s_grammar, wd_Tt K a_table s_table] [] []) (h : f_Ch_addUnitTrees_11 N kb kx69 s_self s_grammar s_table v1 v2 v3 v4 = some f_table) : Gd p l e rm_Ch_addUnitTrees s m args below meth c 0 0 (MQ below (sq D classes (tyK K) none [wd_Ch K a_self (a_grammar 0) (a_table 0) s_self, wd_Gr K a_grammar s_grammar, wd_Tt K a_table f_table] A) args s 0 0 A) D classes A 6 11 [wd_Ch K a_self (a_grammar 0) (a_table 0) s_self, wd_Gr K a_grammar s_grammar, wd_Tt K a_table s_table] [(0, .ref (a_self 0)), (1, .int v1), (2, .int v2), (3, .int v3), (4, .int v4)] [] := by
  unfold f_Ch_addUnitTrees_11 at h
  refine gd_iload X d_Ch_addUnitTrees_11 4 rfl ?_
  refine gd_sipush X (v := 150) d_Ch_addUnitTrees_13 (by decide) ?_
  refine gd_icmp_ge X (tgt := 69) d_Ch_addUnitTrees_16 (by decide) (fun c_1 => ?_) (fun c_1 => ?_)
  · replace h := it_p c_1 h
    refine gd_loc (lv' := []) [] rfl ?_
    exact hkx69 s_table h
  · replace h := it_n c_1 h
    refine gd_iload_n X d_Ch_addUnitTrees_19 3 rfl ?_
    refine gd_if_le X (tgt := 69) d_Ch_addUnitTrees_20 (by decide) (fun c_2 => ?_) (fun c_2 => ?_)
    · replace h := it_p c_2 h
      refine gd_loc (lv' := []) [] rfl ?_
      exact hkx69 s_table h
    · replace h := it_n c_2 h
      refine gd_iconst X (v := 0) d_Ch_addUnitTrees_23 (by decide) ?_
      refine gd_istore X (lv' := [(5, .int 0), (0, .ref (a_self 0)), (1, .int v1), (2, .int v2), (3, .int v3), (4, .int v4)]) d_Ch_addUnitTrees_24 (by decide) rfl ?_
      refine gd_loc (lv' := [(0, .ref (a_self 0)), (1, .int v1), (2, .int v2), (3, .int v3), (4, .int v4), (5, .int 0)]) [1, 2, 3, 4, 5, 0] rfl ?_
      exact tl_Ch_addUnitTrees_26 a_self a_grammar a_table X hr hlk N f_table s_self s_grammar v1 v2 v3 v4 (fun s_table => f_Ch_addUnitTrees_55 N kb kx69 s_self s_grammar s_table v1 v2 v3 v4) (fun s_table h => t_Ch_addUnitTrees_55 a_self a_grammar a_table X hr hlk N f_table s_self s_grammar s_table v1 v2 v3 v4 kb hkb kx69 hkx69 h) N s_table 0 h
def f_Ch_addUnitTrees_69 (N : Nat) (s_self s_grammar s_table : Nat → Nat → Int32) : Option ((Nat → Nat → Int32)) :=
  some s_table
set_option maxHeartbeats 4000000 in
set_option maxRecDepth 100000 in
theorem t_Ch_addUnitTrees_69 {p : Program} {l : Launch} {e : Env} {s : State} {m : MethodId} {args : Array Value} {below : List Frame} {meth : Method} {c : Code} {A : Nat → Prop} {D : va_G} {K : Nat → ClassId} (a_self a_grammar a_table : Nat → Nat) (X : gx p s m args c b_Ch_addUnitTrees 6 R_Ch w_Ch_addUnitTrees D classes (tyK K) A) (hr : meth.sig.returnType = none) (hlk : meth.locks = false) (N : Nat) (f_table : Nat → Nat → Int32) (s_self s_grammar s_table : Nat → Nat → Int32) (h : f_Ch_addUnitTrees_69 N s_self s_grammar s_table = some f_table) : Gd p l e rm_Ch_addUnitTrees s m args below meth c 0 0 (MQ below (sq D classes (tyK K) none [wd_Ch K a_self (a_grammar 0) (a_table 0) s_self, wd_Gr K a_grammar s_grammar, wd_Tt K a_table f_table] A) args s 0 0 A) D classes A 6 69 [wd_Ch K a_self (a_grammar 0) (a_table 0) s_self, wd_Gr K a_grammar s_grammar, wd_Tt K a_table s_table] [] [] := by
  unfold f_Ch_addUnitTrees_69 at h
  cases h
  exact gd_vret X hr hlk d_Ch_addUnitTrees_69
def l_Ch_addUnitTrees_11 (N : Nat) (s_self s_grammar : Nat → Nat → Int32) (v1 v2 : Int32) (kx69 : (Nat → Nat → Int32) → Option ((Nat → Nat → Int32))) : Nat → (Nat → Nat → Int32) → Int32 → Int32 → Option ((Nat → Nat → Int32))
  | 0, _, _, _ => none
  | n + 1, s_table, v3, v4 => f_Ch_addUnitTrees_11 N (l_Ch_addUnitTrees_11 N s_self s_grammar v1 v2 kx69 n) kx69 s_self s_grammar s_table v1 v2 v3 v4
set_option maxHeartbeats 4000000 in
set_option maxRecDepth 100000 in
theorem tl_Ch_addUnitTrees_11 {p : Program} {l : Launch} {e : Env} {s : State} {m : MethodId} {args : Array Value} {below : List Frame} {meth : Method} {c : Code} {A : Nat → Prop} {D : va_G} {K : Nat → ClassId} (a_self a_grammar a_table : Nat → Nat) (X : gx p s m args c b_Ch_addUnitTrees 6 R_Ch w_Ch_addUnitTrees D classes (tyK K) A) (hr : meth.sig.returnType = none) (hlk : meth.locks = false) (N : Nat) (f_table : Nat → Nat → Int32) (s_self s_grammar : Nat → Nat → Int32) (v1 v2 : Int32) (kx69 : (Nat → Nat → Int32) → Option ((Nat → Nat → Int32))) (hkx69 : ∀ (s_table : Nat → Nat → Int32), kx69 s_table = some f_table → Gd p l e rm_Ch_addUnitTrees s m args below meth c 0 0 (MQ below (sq D classes (tyK K) none [wd_Ch K a_self (a_grammar 0) (a_table 0) s_self, wd_Gr K a_grammar s_grammar, wd_Tt K a_table f_table] A) args s 0 0 A) D classes A 6 69 [wd_Ch K a_self (a_grammar 0) (a_table 0) s_self, wd_Gr K a_grammar s_grammar, wd_Tt K a_table s_table] [] []) : ∀ (n : Nat) (s_table : Nat → Nat → Int32) (v3 v4 : Int32), l_Ch_addUnitTrees_11 N s_self s_grammar v1 v2 kx69 n s_table v3 v4 = some f_table → Gd p l e rm_Ch_addUnitTrees s m args below meth c 0 0 (MQ below (sq D classes (tyK K) none [wd_Ch K a_self (a_grammar 0) (a_table 0) s_self, wd_Gr K a_grammar s_grammar, wd_Tt K a_table f_table] A) args s 0 0 A) D classes A 6 11 [wd_Ch K a_self (a_grammar 0) (a_table 0) s_self, wd_Gr K a_grammar s_grammar, wd_Tt K a_table s_table] [(0, .ref (a_self 0)), (1, .int v1), (2, .int v2), (3, .int v3), (4, .int v4)] [] := by
  intro n
  induction n with
  | zero => intro s_table v3 v4 h; have h : (none : Option ((Nat → Nat → Int32))) = some _ := h; cases h
  | succ n ih =>
    intro s_table v3 v4 h
    exact t_Ch_addUnitTrees_11 a_self a_grammar a_table X hr hlk N f_table s_self s_grammar s_table v1 v2 v3 v4 (l_Ch_addUnitTrees_11 N s_self s_grammar v1 v2 kx69 n) ih kx69 hkx69 h
def f_Ch_addUnitTrees_0 (N : Nat) (s_self s_grammar s_table : Nat → Nat → Int32) (v1 v2 : Int32) : Option ((Nat → Nat → Int32)) :=
  bd1 (m_Ch_nextSize N s_self s_table v1 v2 0) fun r_1 =>
  l_Ch_addUnitTrees_11 N s_self s_grammar v1 v2 (fun s_table => f_Ch_addUnitTrees_69 N s_self s_grammar s_table) N s_table r_1 0
set_option maxHeartbeats 4000000 in
set_option maxRecDepth 100000 in
theorem t_Ch_addUnitTrees_0 {p : Program} {l : Launch} {e : Env} {s : State} {m : MethodId} {args : Array Value} {below : List Frame} {meth : Method} {c : Code} {A : Nat → Prop} {D : va_G} {K : Nat → ClassId} (a_self a_grammar a_table : Nat → Nat) (X : gx p s m args c b_Ch_addUnitTrees 6 R_Ch w_Ch_addUnitTrees D classes (tyK K) A) (hr : meth.sig.returnType = none) (hlk : meth.locks = false) (N : Nat) (f_table : Nat → Nat → Int32) (s_self s_grammar s_table : Nat → Nat → Int32) (v1 v2 : Int32) (h : f_Ch_addUnitTrees_0 N s_self s_grammar s_table v1 v2 = some f_table) : Gd p l e rm_Ch_addUnitTrees s m args below meth c 0 0 (MQ below (sq D classes (tyK K) none [wd_Ch K a_self (a_grammar 0) (a_table 0) s_self, wd_Gr K a_grammar s_grammar, wd_Tt K a_table f_table] A) args s 0 0 A) D classes A 6 0 [wd_Ch K a_self (a_grammar 0) (a_table 0) s_self, wd_Gr K a_grammar s_grammar, wd_Tt K a_table s_table] [(0, .ref (a_self 0)), (1, .int v1), (2, .int v2)] [] := by
  unfold f_Ch_addUnitTrees_0 at h
  refine gd_aload_n X d_Ch_addUnitTrees_0 0 rfl ?_
  refine gd_iload_n X d_Ch_addUnitTrees_1 1 rfl ?_
  refine gd_iload_n X d_Ch_addUnitTrees_2 2 rfl ?_
  refine gd_iconst X (v := 0) d_Ch_addUnitTrees_3 (by decide) ?_
  obtain ⟨r_1, hc_2, h⟩ := bd1_e h
  refine gd_pI X (gd_V X (As := [.int v1, .int v2, .int 0]) (rest := []) (c_Ch_nextSize l D K a_self a_grammar a_table N s_self s_table v1 v2 0 r_1 hc_2) 3 (gi_V ml_Ch_180 u_Ch_nextSize) rfl ⟨rfl, rfl⟩ (by decide +kernel) ⟨by decide, by decide⟩ (ci := 3) rfl rfl rfl rfl rfl rfl (Nat.le_of_ble_eq_true rfl) ⟨Nat.zero_le _, Nat.zero_le _⟩ d_Ch_addUnitTrees_4) [0, 2] rfl rfl ?_
  refine gd_istore_n X (lv' := [(3, .int r_1), (0, .ref (a_self 0)), (1, .int v1), (2, .int v2)]) d_Ch_addUnitTrees_7 rfl (by decide) rfl ?_
  refine gd_iconst X (v := 0) d_Ch_addUnitTrees_8 (by decide) ?_
  refine gd_istore X (lv' := [(4, .int 0), (3, .int r_1), (0, .ref (a_self 0)), (1, .int v1), (2, .int v2)]) d_Ch_addUnitTrees_9 (by decide) rfl ?_
  refine gd_loc (lv' := [(0, .ref (a_self 0)), (1, .int v1), (2, .int v2), (3, .int r_1), (4, .int 0)]) [2, 3, 4, 1, 0] rfl ?_
  exact tl_Ch_addUnitTrees_11 a_self a_grammar a_table X hr hlk N f_table s_self s_grammar v1 v2 (fun s_table => f_Ch_addUnitTrees_69 N s_self s_grammar s_table) (fun s_table h => t_Ch_addUnitTrees_69 a_self a_grammar a_table X hr hlk N f_table s_self s_grammar s_table h) N s_table r_1 0 h
def m_Ch_addUnitTrees (N : Nat) (s_self s_grammar s_table : Nat → Nat → Int32) (v1 v2 : Int32) : Option ((Nat → Nat → Int32)) := f_Ch_addUnitTrees_0 N s_self s_grammar s_table v1 v2
set_option maxHeartbeats 4000000 in
set_option maxRecDepth 100000 in
theorem c_Ch_addUnitTrees (l : Launch) (D : va_G) (K : Nat → ClassId) (a_self a_grammar a_table : Nat → Nat) (N : Nat) (s_self s_grammar s_table : Nat → Nat → Int32) (v1 v2 : Int32) (f_table : Nat → Nat → Int32) (h : m_Ch_addUnitTrees N s_self s_grammar s_table v1 v2 = some f_table) : SMet l y_Ch_addUnitTrees w_Ch_addUnitTrees rm_Ch_addUnitTrees D classes (tyK K) [.ref (a_self 0), .int v1, .int v2] none [wd_Ch K a_self (a_grammar 0) (a_table 0) s_self, wd_Gr K a_grammar s_grammar, wd_Tt K a_table s_table] [wd_Ch K a_self (a_grammar 0) (a_table 0) s_self, wd_Gr K a_grammar s_grammar, wd_Tt K a_table f_table] := by
  refine sm_of R_Ch (by decide) rfl rfl (Nat.le_of_ble_eq_true rfl) ?_
  intro p e s m below meth c A X hr hlk
  refine gd_loc (lv' := [(0, .ref (a_self 0)), (1, .int v1), (2, .int v2)]) [0, 1, 2] rfl ?_
  exact t_Ch_addUnitTrees_0 a_self a_grammar a_table X hr hlk N f_table s_self s_grammar s_table v1 v2 h
