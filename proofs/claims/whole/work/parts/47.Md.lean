abbrev b_Md_rankOf : ByteArray := prog_10_method_44_code
def y_Md_rankOf : MethodName := ⟨R_Md, "rankOf", "(II)I"⟩
def w_Md_rankOf : List Cond := .code y_Md_rankOf b_Md_rankOf 6 (some .int) :: TB
theorem k_Md_rankOf : Cond.code y_Md_rankOf b_Md_rankOf 6 (some .int) ∈ TB := tb_of 997 (by decide +kernel) (by decide +kernel)
theorem d_Md_rankOf_0 : decode b_Md_rankOf 0 = .ok (.iconst (-1), 1) := by decide +kernel
theorem d_Md_rankOf_1 : decode b_Md_rankOf 1 = .ok (.istore_n 3, 1) := by decide +kernel
theorem d_Md_rankOf_2 : decode b_Md_rankOf 2 = .ok (.iconst 0, 1) := by decide +kernel
theorem d_Md_rankOf_3 : decode b_Md_rankOf 3 = .ok (.istore 4, 2) := by decide +kernel
theorem d_Md_rankOf_5 : decode b_Md_rankOf 5 = .ok (.iconst 0, 1) := by decide +kernel
theorem d_Md_rankOf_6 : decode b_Md_rankOf 6 = .ok (.istore 5, 2) := by decide +kernel
theorem d_Md_rankOf_8 : decode b_Md_rankOf 8 = .ok (.iload 5, 2) := by decide +kernel
theorem d_Md_rankOf_10 : decode b_Md_rankOf 10 = .ok (.aload_n 0, 1) := by decide +kernel
theorem d_Md_rankOf_11 : decode b_Md_rankOf 11 = .ok (.iload_n 1, 1) := by decide +kernel
theorem d_Md_rankOf_12 : decode b_Md_rankOf 12 = .ok (.invokevirtual 112, 3) := by decide +kernel
theorem d_Md_rankOf_15 : decode b_Md_rankOf 15 = .ok (.if_icmp .ge 56, 3) := by decide +kernel
theorem d_Md_rankOf_18 : decode b_Md_rankOf 18 = .ok (.aload_n 0, 1) := by decide +kernel
theorem d_Md_rankOf_19 : decode b_Md_rankOf 19 = .ok (.iload_n 1, 1) := by decide +kernel
theorem d_Md_rankOf_20 : decode b_Md_rankOf 20 = .ok (.iload 5, 2) := by decide +kernel
theorem d_Md_rankOf_22 : decode b_Md_rankOf 22 = .ok (.invokevirtual 201, 3) := by decide +kernel
theorem d_Md_rankOf_25 : decode b_Md_rankOf 25 = .ok (.ifCond .eq 9, 3) := by decide +kernel
theorem d_Md_rankOf_28 : decode b_Md_rankOf 28 = .ok (.iload_n 3, 1) := by decide +kernel
theorem d_Md_rankOf_29 : decode b_Md_rankOf 29 = .ok (.iconst 1, 1) := by decide +kernel
theorem d_Md_rankOf_30 : decode b_Md_rankOf 30 = .ok (.iadd, 1) := by decide +kernel
theorem d_Md_rankOf_31 : decode b_Md_rankOf 31 = .ok (.goto 4, 3) := by decide +kernel
theorem d_Md_rankOf_34 : decode b_Md_rankOf 34 = .ok (.iload_n 3, 1) := by decide +kernel
theorem d_Md_rankOf_35 : decode b_Md_rankOf 35 = .ok (.istore_n 3, 1) := by decide +kernel
theorem d_Md_rankOf_36 : decode b_Md_rankOf 36 = .ok (.aload_n 0, 1) := by decide +kernel
theorem d_Md_rankOf_37 : decode b_Md_rankOf 37 = .ok (.iload_n 1, 1) := by decide +kernel
theorem d_Md_rankOf_38 : decode b_Md_rankOf 38 = .ok (.iload 5, 2) := by decide +kernel
theorem d_Md_rankOf_40 : decode b_Md_rankOf 40 = .ok (.invokevirtual 201, 3) := by decide +kernel
theorem d_Md_rankOf_43 : decode b_Md_rankOf 43 = .ok (.ifCond .eq 18, 3) := by decide +kernel
theorem d_Md_rankOf_46 : decode b_Md_rankOf 46 = .ok (.aload_n 0, 1) := by decide +kernel
theorem d_Md_rankOf_47 : decode b_Md_rankOf 47 = .ok (.iload_n 1, 1) := by decide +kernel
theorem d_Md_rankOf_48 : decode b_Md_rankOf 48 = .ok (.iload 5, 2) := by decide +kernel
theorem d_Md_rankOf_50 : decode b_Md_rankOf 50 = .ok (.invokevirtual 161, 3) := by decide +kernel
theorem d_Md_rankOf_53 : decode b_Md_rankOf 53 = .ok (.iload_n 2, 1) := by decide +kernel
theorem d_Md_rankOf_54 : decode b_Md_rankOf 54 = .ok (.if_icmp .ne 7, 3) := by decide +kernel
theorem d_Md_rankOf_57 : decode b_Md_rankOf 57 = .ok (.iload_n 3, 1) := by decide +kernel
theorem d_Md_rankOf_58 : decode b_Md_rankOf 58 = .ok (.goto 5, 3) := by decide +kernel
theorem d_Md_rankOf_61 : decode b_Md_rankOf 61 = .ok (.iload 4, 2) := by decide +kernel
theorem d_Md_rankOf_63 : decode b_Md_rankOf 63 = .ok (.istore 4, 2) := by decide +kernel
theorem d_Md_rankOf_65 : decode b_Md_rankOf 65 = .ok (.iinc 5 1, 3) := by decide +kernel
theorem d_Md_rankOf_68 : decode b_Md_rankOf 68 = .ok (.goto (-60), 3) := by decide +kernel
theorem d_Md_rankOf_71 : decode b_Md_rankOf 71 = .ok (.iload 4, 2) := by decide +kernel
theorem d_Md_rankOf_73 : decode b_Md_rankOf 73 = .ok (.ireturn, 1) := by decide +kernel
abbrev rm_Md_rankOf : Room := { frames := 2, cells := 0, slots := 0, locals := 49 }
def f_Md_rankOf_35 (N : Nat) (kb : Int32 → Int32 → Int32 → Option ((Int32))) (kx71 : Int32 → Option ((Int32))) (s_self : Nat → Nat → Int32) (v1 v2 v4 v5 : Int32) (k0 : Int32) : Option ((Int32)) :=
  bd1 (m_Md_isFirst N s_self v1 v5) fun r_1 =>
  if r_1 = 0 then
    nm (v5 + 1) fun v5_4 =>
    kb k0 v4 v5_4
  else
    bd1 (m_Md_variableAt N s_self v1 v5) fun r_5 =>
    if r_5 = v2 then
      nm (v5 + 1) fun v5_9 =>
      kb k0 k0 v5_9
    else
      nm (v5 + 1) fun v5_8 =>
      kb k0 v4 v5_8
set_option maxHeartbeats 4000000 in
set_option maxRecDepth 100000 in
theorem t_Md_rankOf_35 {p : Program} {l : Launch} {e : Env} {s : State} {m : MethodId} {args : Array Value} {below : List Frame} {meth : Method} {c : Code} {A : Nat → Prop} {D : va_G} {K : Nat → ClassId} (a_self a_least : Nat → Nat) (X : gx p s m args c b_Md_rankOf 6 R_Md w_Md_rankOf D classes (tyK K) A) (hr : meth.sig.returnType = some .int) (hlk : meth.locks = false) (N : Nat) (r : Int32) (s_self : Nat → Nat → Int32) (v1 v2 v4 v5 : Int32) (k0 : Int32) (kb : Int32 → Int32 → Int32 → Option ((Int32))) (hkb : ∀ (v3 v4 v5 : Int32), kb v3 v4 v5 = some r → Gd p l e rm_Md_rankOf s m args below meth c 0 0 (MQ below (sq D classes (tyK K) (some (.int r)) [wd_Md K a_self (a_least 0) s_self] A) args s 0 0 A) D classes A 6 8 [wd_Md K a_self (a_least 0) s_self] [(0, .ref (a_self 0)), (1, .int v1), (2, .int v2), (3, .int v3), (4, .int v4), (5, .int v5)] []) (kx71 : Int32 → Option ((Int32))) (hkx71 : ∀ (v4 : Int32), kx71 v4 = some r → Gd p l e rm_Md_rankOf s m args below meth c 0 0 (MQ below (sq D classes (tyK K) (some (.int r)) [wd_Md K a_self (a_least 0) s_self] A) args s 0 0 A) D classes A 6 71 [wd_Md K a_self (a_least 0) s_self] [(4, .int v4)] []) (h : f_Md_rankOf_35 N kb kx71 s_self v1 v2 v4 v5 k0 = some r) : Gd p l e rm_Md_rankOf s m args below meth c 0 0 (MQ below (sq D classes (tyK K) (some (.int r)) [wd_Md K a_self (a_least 0) s_self] A) args s 0 0 A) D classes A 6 35 [wd_Md K a_self (a_least 0) s_self] [(0, .ref (a_self 0)), (1, .int v1), (2, .int v2), (4, .int v4), (5, .int v5)] [.int k0] := by
  unfold f_Md_rankOf_35 at h
  refine gd_istore_n X (lv' := [(3, .int k0), (0, .ref (a_self 0)), (1, .int v1), (2, .int v2), (4, .int v4), (5, .int v5)]) d_Md_rankOf_35 rfl (by decide) rfl ?_
  refine gd_aload_n X d_Md_rankOf_36 1 rfl ?_
  refine gd_iload_n X d_Md_rankOf_37 2 rfl ?_
  refine gd_iload X d_Md_rankOf_38 5 rfl ?_
  obtain ⟨r_1, hc_2, h⟩ := bd1_e h
  refine gd_fI X (gd_V X (As := [.int v1, .int v5]) (rest := []) (c_Md_isFirst l D K a_self a_least N s_self v1 v5 r_1 hc_2) 2 (gi_V ml_Md_201 u_Md_isFirst) rfl ⟨rfl, rfl⟩ (by decide +kernel) ⟨by decide, by decide⟩ (ci := 7) rfl rfl rfl rfl rfl rfl (Nat.le_of_ble_eq_true rfl) ⟨Nat.zero_le _, Nat.zero_le _⟩ d_Md_rankOf_40) ?_
  refine gd_if_eq X (tgt := 61) d_Md_rankOf_43 (by decide) (fun c_3 => ?_) (fun c_3 => ?_)
  · replace h := it_p c_3 h
    refine gd_iload X d_Md_rankOf_61 4 rfl ?_
    refine gd_istore X (lv' := [(4, .int v4), (3, .int k0), (0, .ref (a_self 0)), (1, .int v1), (2, .int v2), (5, .int v5)]) d_Md_rankOf_63 (by decide) rfl ?_
    obtain ⟨v5_4, ev5_4, h⟩ := nm_e' h
    refine gd_iinc X (v := v5_4) (lv' := [(5, .int v5_4), (4, .int v4), (3, .int k0), (0, .ref (a_self 0)), (1, .int v1), (2, .int v2)]) d_Md_rankOf_65 (k := 5) rfl (by rw [ev5_4]; rfl) (by decide) rfl ?_
    refine gd_goto X (tgt := 8) d_Md_rankOf_68 (by decide) ?_
    refine gd_loc (lv' := [(0, .ref (a_self 0)), (1, .int v1), (2, .int v2), (3, .int k0), (4, .int v4), (5, .int v5_4)]) [3, 4, 5, 2, 1, 0] rfl ?_
    exact hkb k0 v4 v5_4 h
  · replace h := it_n c_3 h
    refine gd_aload_n X d_Md_rankOf_46 1 rfl ?_
    refine gd_iload_n X d_Md_rankOf_47 2 rfl ?_
    refine gd_iload X d_Md_rankOf_48 5 rfl ?_
    obtain ⟨r_5, hc_6, h⟩ := bd1_e h
    refine gd_fI X (gd_V X (As := [.int v1, .int v5]) (rest := []) (c_Md_variableAt l D K a_self a_least N s_self v1 v5 r_5 hc_6) 2 (gi_V ml_Md_161 u_Md_variableAt) rfl ⟨rfl, rfl⟩ (by decide +kernel) ⟨by decide, by decide⟩ (ci := 7) rfl rfl rfl rfl rfl rfl (Nat.le_of_ble_eq_true rfl) ⟨Nat.zero_le _, Nat.zero_le _⟩ d_Md_rankOf_50) ?_
    refine gd_iload_n X d_Md_rankOf_53 3 rfl ?_
    refine gd_icmp_ne X (tgt := 61) d_Md_rankOf_54 (by decide) (fun c_7 => ?_) (fun c_7 => ?_)
    · replace h := it_n c_7 h
      refine gd_iload X d_Md_rankOf_61 4 rfl ?_
      refine gd_istore X (lv' := [(4, .int v4), (3, .int k0), (0, .ref (a_self 0)), (1, .int v1), (2, .int v2), (5, .int v5)]) d_Md_rankOf_63 (by decide) rfl ?_
      obtain ⟨v5_8, ev5_8, h⟩ := nm_e' h
      refine gd_iinc X (v := v5_8) (lv' := [(5, .int v5_8), (4, .int v4), (3, .int k0), (0, .ref (a_self 0)), (1, .int v1), (2, .int v2)]) d_Md_rankOf_65 (k := 5) rfl (by rw [ev5_8]; rfl) (by decide) rfl ?_
      refine gd_goto X (tgt := 8) d_Md_rankOf_68 (by decide) ?_
      refine gd_loc (lv' := [(0, .ref (a_self 0)), (1, .int v1), (2, .int v2), (3, .int k0), (4, .int v4), (5, .int v5_8)]) [3, 4, 5, 2, 1, 0] rfl ?_
      exact hkb k0 v4 v5_8 h
    · replace h := it_p c_7 h
      refine gd_iload_n X d_Md_rankOf_57 0 rfl ?_
      refine gd_goto X (tgt := 63) d_Md_rankOf_58 (by decide) ?_
      refine gd_istore X (lv' := [(4, .int k0), (3, .int k0), (0, .ref (a_self 0)), (1, .int v1), (2, .int v2), (5, .int v5)]) d_Md_rankOf_63 (by decide) rfl ?_
      obtain ⟨v5_9, ev5_9, h⟩ := nm_e' h
      refine gd_iinc X (v := v5_9) (lv' := [(5, .int v5_9), (4, .int k0), (3, .int k0), (0, .ref (a_self 0)), (1, .int v1), (2, .int v2)]) d_Md_rankOf_65 (k := 5) rfl (by rw [ev5_9]; rfl) (by decide) rfl ?_
      refine gd_goto X (tgt := 8) d_Md_rankOf_68 (by decide) ?_
      refine gd_loc (lv' := [(0, .ref (a_self 0)), (1, .int v1), (2, .int v2), (3, .int k0), (4, .int k0), (5, .int v5_9)]) [3, 4, 5, 2, 1, 0] rfl ?_
      exact hkb k0 k0 v5_9 h
def f_Md_rankOf_8 (N : Nat) (kb : Int32 → Int32 → Int32 → Option ((Int32))) (kx71 : Int32 → Option ((Int32))) (s_self : Nat → Nat → Int32) (v1 v2 v3 v4 v5 : Int32) : Option ((Int32)) :=
  bd1 (m_Md_variablesIn N s_self v1) fun r_1 =>
  if r_1 ≤ v5 then
    kx71 v4
  else
    bd1 (m_Md_isFirst N s_self v1 v5) fun r_4 =>
    if r_4 = 0 then
      f_Md_rankOf_35 N kb kx71 s_self v1 v2 v4 v5 v3
    else
      f_Md_rankOf_35 N kb kx71 s_self v1 v2 v4 v5 (v3 + 1)
set_option maxHeartbeats 4000000 in
set_option maxRecDepth 100000 in
theorem t_Md_rankOf_8 {p : Program} {l : Launch} {e : Env} {s : State} {m : MethodId} {args : Array Value} {below : List Frame} {meth : Method} {c : Code} {A : Nat → Prop} {D : va_G} {K : Nat → ClassId} (a_self a_least : Nat → Nat) (X : gx p s m args c b_Md_rankOf 6 R_Md w_Md_rankOf D classes (tyK K) A) (hr : meth.sig.returnType = some .int) (hlk : meth.locks = false) (N : Nat) (r : Int32) (s_self : Nat → Nat → Int32) (v1 v2 v3 v4 v5 : Int32) (kb : Int32 → Int32 → Int32 → Option ((Int32))) (hkb : ∀ (v3 v4 v5 : Int32), kb v3 v4 v5 = some r → Gd p l e rm_Md_rankOf s m args below meth c 0 0 (MQ below (sq D classes (tyK K) (some (.int r)) [wd_Md K a_self (a_least 0) s_self] A) args s 0 0 A) D classes A 6 8 [wd_Md K a_self (a_least 0) s_self] [(0, .ref (a_self 0)), (1, .int v1), (2, .int v2), (3, .int v3), (4, .int v4), (5, .int v5)] []) (kx71 : Int32 → Option ((Int32))) (hkx71 : ∀ (v4 : Int32), kx71 v4 = some r → Gd p l e rm_Md_rankOf s m args below meth c 0 0 (MQ below (sq D classes (tyK K) (some (.int r)) [wd_Md K a_self (a_least 0) s_self] A) args s 0 0 A) D classes A 6 71 [wd_Md K a_self (a_least 0) s_self] [(4, .int v4)] []) (h : f_Md_rankOf_8 N kb kx71 s_self v1 v2 v3 v4 v5 = some r) : Gd p l e rm_Md_rankOf s m args below meth c 0 0 (MQ below (sq D classes (tyK K) (some (.int r)) [wd_Md K a_self (a_least 0) s_self] A) args s 0 0 A) D classes A 6 8 [wd_Md K a_self (a_least 0) s_self] [(0, .ref (a_self 0)), (1, .int v1), (2, .int v2), (3, .int v3), (4, .int v4), (5, .int v5)] [] := by
  unfold f_Md_rankOf_8 at h
  refine gd_iload X d_Md_rankOf_8 5 rfl ?_
  refine gd_aload_n X d_Md_rankOf_10 0 rfl ?_
  refine gd_iload_n X d_Md_rankOf_11 1 rfl ?_
  obtain ⟨r_1, hc_2, h⟩ := bd1_e h
  refine gd_fI X (gd_V X (As := [.int v1]) (rest := [.int v5]) (c_Md_variablesIn l D K a_self a_least N s_self v1 r_1 hc_2) 1 (gi_V ml_Md_112 u_Md_variablesIn) rfl ⟨rfl, rfl⟩ (by decide +kernel) ⟨by decide, by decide⟩ (ci := 7) rfl rfl rfl rfl rfl rfl (Nat.le_of_ble_eq_true rfl) ⟨Nat.zero_le _, Nat.zero_le _⟩ d_Md_rankOf_12) ?_
  refine gd_icmp_ge X (tgt := 71) d_Md_rankOf_15 (by decide) (fun c_3 => ?_) (fun c_3 => ?_)
  · replace h := it_p c_3 h
    refine gd_loc (lv' := [(4, .int v4)]) [4] rfl ?_
    exact hkx71 v4 h
  · replace h := it_n c_3 h
    refine gd_aload_n X d_Md_rankOf_18 0 rfl ?_
    refine gd_iload_n X d_Md_rankOf_19 1 rfl ?_
    refine gd_iload X d_Md_rankOf_20 5 rfl ?_
    obtain ⟨r_4, hc_5, h⟩ := bd1_e h
    refine gd_fI X (gd_V X (As := [.int v1, .int v5]) (rest := []) (c_Md_isFirst l D K a_self a_least N s_self v1 v5 r_4 hc_5) 2 (gi_V ml_Md_201 u_Md_isFirst) rfl ⟨rfl, rfl⟩ (by decide +kernel) ⟨by decide, by decide⟩ (ci := 7) rfl rfl rfl rfl rfl rfl (Nat.le_of_ble_eq_true rfl) ⟨Nat.zero_le _, Nat.zero_le _⟩ d_Md_rankOf_22) ?_
    refine gd_if_eq X (tgt := 34) d_Md_rankOf_25 (by decide) (fun c_6 => ?_) (fun c_6 => ?_)
    · replace h := it_p c_6 h
      refine gd_iload_n X d_Md_rankOf_34 3 rfl ?_
      refine gd_loc (lv' := [(0, .ref (a_self 0)), (1, .int v1), (2, .int v2), (4, .int v4), (5, .int v5)]) [0, 1, 2, 4, 5] rfl ?_
      exact t_Md_rankOf_35 a_self a_least X hr hlk N r s_self v1 v2 v4 v5 v3 kb hkb kx71 hkx71 h
    · replace h := it_n c_6 h
      refine gd_iload_n X d_Md_rankOf_28 3 rfl ?_
      refine gd_iconst X (v := 1) d_Md_rankOf_29 (by decide) ?_
      refine gd_iadd X d_Md_rankOf_30 ?_
      refine gd_goto X (tgt := 35) d_Md_rankOf_31 (by decide) ?_
      refine gd_loc (lv' := [(0, .ref (a_self 0)), (1, .int v1), (2, .int v2), (4, .int v4), (5, .int v5)]) [0, 1, 2, 4, 5] rfl ?_
      exact t_Md_rankOf_35 a_self a_least X hr hlk N r s_self v1 v2 v4 v5 (v3 + 1) kb hkb kx71 hkx71 h
def f_Md_rankOf_71 (N : Nat) (s_self : Nat → Nat → Int32) (v4 : Int32) : Option ((Int32)) :=
  some (v4)
set_option maxHeartbeats 4000000 in
set_option maxRecDepth 100000 in
theorem t_Md_rankOf_71 {p : Program} {l : Launch} {e : Env} {s : State} {m : MethodId} {args : Array Value} {below : List Frame} {meth : Method} {c : Code} {A : Nat → Prop} {D : va_G} {K : Nat → ClassId} (a_self a_least : Nat → Nat) (X : gx p s m args c b_Md_rankOf 6 R_Md w_Md_rankOf D classes (tyK K) A) (hr : meth.sig.returnType = some .int) (hlk : meth.locks = false) (N : Nat) (r : Int32) (s_self : Nat → Nat → Int32) (v4 : Int32) (h : f_Md_rankOf_71 N s_self v4 = some r) : Gd p l e rm_Md_rankOf s m args below meth c 0 0 (MQ below (sq D classes (tyK K) (some (.int r)) [wd_Md K a_self (a_least 0) s_self] A) args s 0 0 A) D classes A 6 71 [wd_Md K a_self (a_least 0) s_self] [(4, .int v4)] [] := by
  unfold f_Md_rankOf_71 at h
  refine gd_iload X d_Md_rankOf_71 0 rfl ?_
  cases h
  exact gd_iret X hr hlk d_Md_rankOf_73
def l_Md_rankOf_8 (N : Nat) (s_self : Nat → Nat → Int32) (v1 v2 : Int32) (kx71 : Int32 → Option ((Int32))) : Nat → Int32 → Int32 → Int32 → Option ((Int32))
  | 0, _, _, _ => none
  | n + 1, v3, v4, v5 => f_Md_rankOf_8 N (l_Md_rankOf_8 N s_self v1 v2 kx71 n) kx71 s_self v1 v2 v3 v4 v5
set_option maxHeartbeats 4000000 in
set_option maxRecDepth 100000 in
theorem tl_Md_rankOf_8 {p : Program} {l : Launch} {e : Env} {s : State} {m : MethodId} {args : Array Value} {below : List Frame} {meth : Method} {c : Code} {A : Nat → Prop} {D : va_G} {K : Nat → ClassId} (a_self a_least : Nat → Nat) (X : gx p s m args c b_Md_rankOf 6 R_Md w_Md_rankOf D classes (tyK K) A) (hr : meth.sig.returnType = some .int) (hlk : meth.locks = false) (N : Nat) (r : Int32) (s_self : Nat → Nat → Int32) (v1 v2 : Int32) (kx71 : Int32 → Option ((Int32))) (hkx71 : ∀ (v4 : Int32), kx71 v4 = some r → Gd p l e rm_Md_rankOf s m args below meth c 0 0 (MQ below (sq D classes (tyK K) (some (.int r)) [wd_Md K a_self (a_least 0) s_self] A) args s 0 0 A) D classes A 6 71 [wd_Md K a_self (a_least 0) s_self] [(4, .int v4)] []) : ∀ (n : Nat) (v3 v4 v5 : Int32), l_Md_rankOf_8 N s_self v1 v2 kx71 n v3 v4 v5 = some r → Gd p l e rm_Md_rankOf s m args below meth c 0 0 (MQ below (sq D classes (tyK K) (some (.int r)) [wd_Md K a_self (a_least 0) s_self] A) args s 0 0 A) D classes A 6 8 [wd_Md K a_self (a_least 0) s_self] [(0, .ref (a_self 0)), (1, .int v1), (2, .int v2), (3, .int v3), (4, .int v4), (5, .int v5)] [] := by
  intro n
  induction n with
  | zero => intro v3 v4 v5 h; have h : (none : Option ((Int32))) = some _ := h; cases h
  | succ n ih =>
    intro v3 v4 v5 h
    exact t_Md_rankOf_8 a_self a_least X hr hlk N r s_self v1 v2 v3 v4 v5 (l_Md_rankOf_8 N s_self v1 v2 kx71 n) ih kx71 hkx71 h
def f_Md_rankOf_0 (N : Nat) (s_self : Nat → Nat → Int32) (v1 v2 : Int32) : Option ((Int32)) :=
  l_Md_rankOf_8 N s_self v1 v2 (fun v4 => f_Md_rankOf_71 N s_self v4) N (-1) 0 0
set_option maxHeartbeats 4000000 in
set_option maxRecDepth 100000 in
theorem t_Md_rankOf_0 {p : Program} {l : Launch} {e : Env} {s : State} {m : MethodId} {args : Array Value} {below : List Frame} {meth : Method} {c : Code} {A : Nat → Prop} {D : va_G} {K : Nat → ClassId} (a_self a_least : Nat → Nat) (X : gx p s m args c b_Md_rankOf 6 R_Md w_Md_rankOf D classes (tyK K) A) (hr : meth.sig.returnType = some .int) (hlk : meth.locks = false) (N : Nat) (r : Int32) (s_self : Nat → Nat → Int32) (v1 v2 : Int32) (h : f_Md_rankOf_0 N s_self v1 v2 = some r) : Gd p l e rm_Md_rankOf s m args below meth c 0 0 (MQ below (sq D classes (tyK K) (some (.int r)) [wd_Md K a_self (a_least 0) s_self] A) args s 0 0 A) D classes A 6 0 [wd_Md K a_self (a_least 0) s_self] [(0, .ref (a_self 0)), (1, .int v1), (2, .int v2)] [] := by
  unfold f_Md_rankOf_0 at h
  refine gd_iconst X (v := (-1)) d_Md_rankOf_0 (by decide) ?_
  refine gd_istore_n X (lv' := [(3, .int (-1)), (0, .ref (a_self 0)), (1, .int v1), (2, .int v2)]) d_Md_rankOf_1 rfl (by decide) rfl ?_
  refine gd_iconst X (v := 0) d_Md_rankOf_2 (by decide) ?_
  refine gd_istore X (lv' := [(4, .int 0), (3, .int (-1)), (0, .ref (a_self 0)), (1, .int v1), (2, .int v2)]) d_Md_rankOf_3 (by decide) rfl ?_
  refine gd_iconst X (v := 0) d_Md_rankOf_5 (by decide) ?_
  refine gd_istore X (lv' := [(5, .int 0), (4, .int 0), (3, .int (-1)), (0, .ref (a_self 0)), (1, .int v1), (2, .int v2)]) d_Md_rankOf_6 (by decide) rfl ?_
  refine gd_loc (lv' := [(0, .ref (a_self 0)), (1, .int v1), (2, .int v2), (3, .int (-1)), (4, .int 0), (5, .int 0)]) [3, 4, 5, 2, 1, 0] rfl ?_
  exact tl_Md_rankOf_8 a_self a_least X hr hlk N r s_self v1 v2 (fun v4 => f_Md_rankOf_71 N s_self v4) (fun v4 h => t_Md_rankOf_71 a_self a_least X hr hlk N r s_self v4 h) N (-1) 0 0 h
def m_Md_rankOf (N : Nat) (s_self : Nat → Nat → Int32) (v1 v2 : Int32) : Option ((Int32)) := f_Md_rankOf_0 N s_self v1 v2
set_option maxHeartbeats 4000000 in
set_option maxRecDepth 100000 in
theorem c_Md_rankOf (l : Launch) (D : va_G) (K : Nat → ClassId) (a_self a_least : Nat → Nat) (N : Nat) (s_self : Nat → Nat → Int32) (v1 v2 : Int32) (r : Int32) (h : m_Md_rankOf N s_self v1 v2 = some r) : SMet l y_Md_rankOf w_Md_rankOf rm_Md_rankOf D classes (tyK K) [.ref (a_self 0), .int v1, .int v2] (some (.int r)) [wd_Md K a_self (a_least 0) s_self] [wd_Md K a_self (a_least 0) s_self] := by
  refine sm_of R_Md (by decide) rfl rfl (Nat.le_of_ble_eq_true rfl) ?_
  intro p e s m below meth c A X hr hlk
  refine gd_loc (lv' := [(0, .ref (a_self 0)), (1, .int v1), (2, .int v2)]) [0, 1, 2] rfl ?_
  exact t_Md_rankOf_0 a_self a_least X hr hlk N r s_self v1 v2 h
