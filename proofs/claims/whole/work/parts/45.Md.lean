abbrev b_Md_clear : ByteArray := prog_10_method_38_code
def y_Md_clear : MethodName := ⟨R_Md, "clear", "()I"⟩
def w_Md_clear : List Cond := .code y_Md_clear b_Md_clear 2 (some .int) :: TB
theorem k_Md_clear : Cond.code y_Md_clear b_Md_clear 2 (some .int) ∈ TB := tb_of 973 (by decide +kernel) (by decide +kernel)
theorem d_Md_clear_0 : decode b_Md_clear 0 = .ok (.aload_n 0, 1) := by decide +kernel
theorem d_Md_clear_1 : decode b_Md_clear 1 = .ok (.iconst 0, 1) := by decide +kernel
theorem d_Md_clear_2 : decode b_Md_clear 2 = .ok (.putfield 86, 3) := by decide +kernel
theorem d_Md_clear_5 : decode b_Md_clear 5 = .ok (.aload_n 0, 1) := by decide +kernel
theorem d_Md_clear_6 : decode b_Md_clear 6 = .ok (.getfield 198, 3) := by decide +kernel
theorem d_Md_clear_9 : decode b_Md_clear 9 = .ok (.istore_n 1, 1) := by decide +kernel
theorem d_Md_clear_10 : decode b_Md_clear 10 = .ok (.aload_n 0, 1) := by decide +kernel
theorem d_Md_clear_11 : decode b_Md_clear 11 = .ok (.iconst 0, 1) := by decide +kernel
theorem d_Md_clear_12 : decode b_Md_clear 12 = .ok (.putfield 198, 3) := by decide +kernel
theorem d_Md_clear_15 : decode b_Md_clear 15 = .ok (.iload_n 1, 1) := by decide +kernel
theorem d_Md_clear_16 : decode b_Md_clear 16 = .ok (.ireturn, 1) := by decide +kernel
abbrev rm_Md_clear : Room := { frames := 0, cells := 0, slots := 0, locals := 0 }
def f_Md_clear_0 (s_self : Nat → Nat → Int32) : Option ((Int32) × (Nat → Nat → Int32)) :=
  nm (st2 s_self 0 0 0) fun s_self_1 =>
  nm (s_self_1 0 12) fun v1_2 =>
  nm (st2 s_self_1 0 12 0) fun s_self_3 =>
  some ((v1_2), s_self_3)
set_option maxHeartbeats 4000000 in
set_option maxRecDepth 100000 in
theorem t_Md_clear_0 {p : Program} {l : Launch} {e : Env} {s : State} {m : MethodId} {args : Array Value} {below : List Frame} {meth : Method} {c : Code} {A : Nat → Prop} {D : va_G} {K : Nat → ClassId} (a_self a_least : Nat → Nat) (X : gx p s m args c b_Md_clear 2 R_Md w_Md_clear D classes (tyK K) A) (hr : meth.sig.returnType = some .int) (hlk : meth.locks = false) (r : Int32) (f_self : Nat → Nat → Int32) (s_self : Nat → Nat → Int32) (h : f_Md_clear_0 s_self = some (r, f_self)) : Gd p l e rm_Md_clear s m args below meth c 0 0 (MQ below (sq D classes (tyK K) (some (.int r)) [wd_Md K a_self (a_least 0) f_self] A) args s 0 0 A) D classes A 2 0 [wd_Md K a_self (a_least 0) s_self] [(0, .ref (a_self 0))] [] := by
  unfold f_Md_clear_0 at h
  refine gd_aload_n X d_Md_clear_0 0 rfl ?_
  refine gd_iconst X (v := 0) d_Md_clear_1 (by decide) ?_
  obtain ⟨s_self_1, es_self_1, h⟩ := nm_e' h
  refine gd_put X (ci := 7) (C := R_Md) (T := F_Md) (N := 36) (ty := .int) (w' := [wd_Md K a_self (a_least 0) s_self_1]) 0 0 rfl rfl rfl (in_Md _) t_Md t_Md_ok n_Md 0 (by decide) (List.mem_cons_of_mem _ fl_Md_86) rfl rfl (by decide +kernel) rfl rfl (Nat.le_of_ble_eq_true rfl) d_Md_clear_2 (by rw [es_self_1]; rfl) ?_
  refine gd_aload_n X d_Md_clear_5 0 rfl ?_
  refine gd_get X (ci := 7) (C := R_Md) (T := F_Md) (N := 36) (v := .int (s_self_1 0 12)) 0 0 rfl rfl rfl (in_Md _) 12 (by decide) (List.mem_cons_of_mem _ fl_Md_198) rfl rfl d_Md_clear_6 ?_
  obtain ⟨v1_2, ev1_2, h⟩ := nm_e' h
  refine gd_topi ev1_2 ?_
  refine gd_istore_n X (lv' := [(1, .int v1_2), (0, .ref (a_self 0))]) d_Md_clear_9 rfl (by decide) rfl ?_
  refine gd_aload_n X d_Md_clear_10 1 rfl ?_
  refine gd_iconst X (v := 0) d_Md_clear_11 (by decide) ?_
  obtain ⟨s_self_3, es_self_3, h⟩ := nm_e' h
  refine gd_put X (ci := 7) (C := R_Md) (T := F_Md) (N := 36) (ty := .int) (w' := [wd_Md K a_self (a_least 0) s_self_3]) 0 0 rfl rfl rfl (in_Md _) t_Md t_Md_ok n_Md 12 (by decide) (List.mem_cons_of_mem _ fl_Md_198) rfl rfl (by decide +kernel) rfl rfl (Nat.le_of_ble_eq_true rfl) d_Md_clear_12 (by rw [es_self_3]; rfl) ?_
  refine gd_iload_n X d_Md_clear_15 0 rfl ?_
  cases h
  exact gd_iret X hr hlk d_Md_clear_16
def m_Md_clear (s_self : Nat → Nat → Int32) : Option ((Int32) × (Nat → Nat → Int32)) := f_Md_clear_0 s_self
set_option maxHeartbeats 4000000 in
set_option maxRecDepth 100000 in
theorem c_Md_clear (l : Launch) (D : va_G) (K : Nat → ClassId) (a_self a_least : Nat → Nat) (s_self : Nat → Nat → Int32) (r : Int32) (f_self : Nat → Nat → Int32) (h : m_Md_clear s_self = some (r, f_self)) : SMet l y_Md_clear w_Md_clear rm_Md_clear D classes (tyK K) [.ref (a_self 0)] (some (.int r)) [wd_Md K a_self (a_least 0) s_self] [wd_Md K a_self (a_least 0) f_self] := by
  refine sm_of R_Md (by decide) rfl rfl (Nat.le_of_ble_eq_true rfl) ?_
  intro p e s m below meth c A X hr hlk
  refine gd_loc (lv' := [(0, .ref (a_self 0))]) [0] rfl ?_
  exact t_Md_clear_0 a_self a_least X hr hlk r f_self s_self h
abbrev b_Md_isFirst : ByteArray := prog_10_method_40_code
def y_Md_isFirst : MethodName := ⟨R_Md, "isFirst", "(II)Z"⟩
def w_Md_isFirst : List Cond := .code y_Md_isFirst b_Md_isFirst 5 (some .boolean) :: TB
theorem k_Md_isFirst : Cond.code y_Md_isFirst b_Md_isFirst 5 (some .boolean) ∈ TB := tb_of 989 (by decide +kernel) (by decide +kernel)
theorem d_Md_isFirst_0 : decode b_Md_isFirst 0 = .ok (.iconst 1, 1) := by decide +kernel
theorem d_Md_isFirst_1 : decode b_Md_isFirst 1 = .ok (.istore_n 3, 1) := by decide +kernel
theorem d_Md_isFirst_2 : decode b_Md_isFirst 2 = .ok (.iconst 0, 1) := by decide +kernel
theorem d_Md_isFirst_3 : decode b_Md_isFirst 3 = .ok (.istore 4, 2) := by decide +kernel
theorem d_Md_isFirst_5 : decode b_Md_isFirst 5 = .ok (.iload 4, 2) := by decide +kernel
theorem d_Md_isFirst_7 : decode b_Md_isFirst 7 = .ok (.iload_n 2, 1) := by decide +kernel
theorem d_Md_isFirst_8 : decode b_Md_isFirst 8 = .ok (.if_icmp .ge 35, 3) := by decide +kernel
theorem d_Md_isFirst_11 : decode b_Md_isFirst 11 = .ok (.iload_n 3, 1) := by decide +kernel
theorem d_Md_isFirst_12 : decode b_Md_isFirst 12 = .ok (.ifCond .eq 23, 3) := by decide +kernel
theorem d_Md_isFirst_15 : decode b_Md_isFirst 15 = .ok (.aload_n 0, 1) := by decide +kernel
theorem d_Md_isFirst_16 : decode b_Md_isFirst 16 = .ok (.iload_n 1, 1) := by decide +kernel
theorem d_Md_isFirst_17 : decode b_Md_isFirst 17 = .ok (.iload 4, 2) := by decide +kernel
theorem d_Md_isFirst_19 : decode b_Md_isFirst 19 = .ok (.invokevirtual 161, 3) := by decide +kernel
theorem d_Md_isFirst_22 : decode b_Md_isFirst 22 = .ok (.aload_n 0, 1) := by decide +kernel
theorem d_Md_isFirst_23 : decode b_Md_isFirst 23 = .ok (.iload_n 1, 1) := by decide +kernel
theorem d_Md_isFirst_24 : decode b_Md_isFirst 24 = .ok (.iload_n 2, 1) := by decide +kernel
theorem d_Md_isFirst_25 : decode b_Md_isFirst 25 = .ok (.invokevirtual 161, 3) := by decide +kernel
theorem d_Md_isFirst_28 : decode b_Md_isFirst 28 = .ok (.if_icmp .eq 7, 3) := by decide +kernel
theorem d_Md_isFirst_31 : decode b_Md_isFirst 31 = .ok (.iconst 1, 1) := by decide +kernel
theorem d_Md_isFirst_32 : decode b_Md_isFirst 32 = .ok (.goto 4, 3) := by decide +kernel
theorem d_Md_isFirst_35 : decode b_Md_isFirst 35 = .ok (.iconst 0, 1) := by decide +kernel
theorem d_Md_isFirst_36 : decode b_Md_isFirst 36 = .ok (.istore_n 3, 1) := by decide +kernel
theorem d_Md_isFirst_37 : decode b_Md_isFirst 37 = .ok (.iinc 4 1, 3) := by decide +kernel
theorem d_Md_isFirst_40 : decode b_Md_isFirst 40 = .ok (.goto (-35), 3) := by decide +kernel
theorem d_Md_isFirst_43 : decode b_Md_isFirst 43 = .ok (.iload_n 3, 1) := by decide +kernel
theorem d_Md_isFirst_44 : decode b_Md_isFirst 44 = .ok (.ireturn, 1) := by decide +kernel
abbrev rm_Md_isFirst : Room := { frames := 1, cells := 0, slots := 0, locals := 25 }
def f_Md_isFirst_5 (N : Nat) (kb : Int32 → Int32 → Option ((Int32))) (kx43 : Int32 → Option ((Int32))) (s_self : Nat → Nat → Int32) (v1 v2 v3 v4 : Int32) : Option ((Int32)) :=
  if v2 ≤ v4 then
    kx43 v3
  else
    if v3 = 0 then
      nm (v4 + 1) fun v4_3 =>
      kb 0 v4_3
    else
      bd1 (m_Md_variableAt N s_self v1 v4) fun r_4 =>
      bd1 (m_Md_variableAt N s_self v1 v2) fun r_6 =>
      if r_4 = r_6 then
        nm (v4 + 1) fun v4_9 =>
        kb 0 v4_9
      else
        nm (v4 + 1) fun v4_10 =>
        kb 1 v4_10
set_option maxHeartbeats 4000000 in
set_option maxRecDepth 100000 in
theorem t_Md_isFirst_5 {p : Program} {l : Launch} {e : Env} {s : State} {m : MethodId} {args : Array Value} {below : List Frame} {meth : Method} {c : Code} {A : Nat → Prop} {D : va_G} {K : Nat → ClassId} (a_self a_least : Nat → Nat) (X : gx p s m args c b_Md_isFirst 5 R_Md w_Md_isFirst D classes (tyK K) A) (hr : meth.sig.returnType = some .boolean) (hlk : meth.locks = false) (N : Nat) (r : Int32) (s_self : Nat → Nat → Int32) (v1 v2 v3 v4 : Int32) (kb : Int32 → Int32 → Option ((Int32))) (hkb : ∀ (v3 v4 : Int32), kb v3 v4 = some r → Gd p l e rm_Md_isFirst s m args below meth c 0 0 (MQ below (sq D classes (tyK K) (some (.int r)) [wd_Md K a_self (a_least 0) s_self] A) args s 0 0 A) D classes A 5 5 [wd_Md K a_self (a_least 0) s_self] [(0, .ref (a_self 0)), (1, .int v1), (2, .int v2), (3, .int v3), (4, .int v4)] []) (kx43 : Int32 → Option ((Int32))) (hkx43 : ∀ (v3 : Int32), kx43 v3 = some r → Gd p l e rm_Md_isFirst s m args below meth c 0 0 (MQ below (sq D classes (tyK K) (some (.int r)) [wd_Md K a_self (a_least 0) s_self] A) args s 0 0 A) D classes A 5 43 [wd_Md K a_self (a_least 0) s_self] [(3, .int v3)] []) (h : f_Md_isFirst_5 N kb kx43 s_self v1 v2 v3 v4 = some r) : Gd p l e rm_Md_isFirst s m args below meth c 0 0 (MQ below (sq D classes (tyK K) (some (.int r)) [wd_Md K a_self (a_least 0) s_self] A) args s 0 0 A) D classes A 5 5 [wd_Md K a_self (a_least 0) s_self] [(0, .ref (a_self 0)), (1, .int v1), (2, .int v2), (3, .int v3), (4, .int v4)] [] := by
  unfold f_Md_isFirst_5 at h
  refine gd_iload X d_Md_isFirst_5 4 rfl ?_
  refine gd_iload_n X d_Md_isFirst_7 2 rfl ?_
  refine gd_icmp_ge X (tgt := 43) d_Md_isFirst_8 (by decide) (fun c_1 => ?_) (fun c_1 => ?_)
  · replace h := it_p c_1 h
    refine gd_loc (lv' := [(3, .int v3)]) [3] rfl ?_
    exact hkx43 v3 h
  · replace h := it_n c_1 h
    refine gd_iload_n X d_Md_isFirst_11 3 rfl ?_
    refine gd_if_eq X (tgt := 35) d_Md_isFirst_12 (by decide) (fun c_2 => ?_) (fun c_2 => ?_)
    · replace h := it_p c_2 h
      refine gd_iconst X (v := 0) d_Md_isFirst_35 (by decide) ?_
      refine gd_istore_n X (lv' := [(3, .int 0), (0, .ref (a_self 0)), (1, .int v1), (2, .int v2), (4, .int v4)]) d_Md_isFirst_36 rfl (by decide) rfl ?_
      obtain ⟨v4_3, ev4_3, h⟩ := nm_e' h
      refine gd_iinc X (v := v4_3) (lv' := [(4, .int v4_3), (3, .int 0), (0, .ref (a_self 0)), (1, .int v1), (2, .int v2)]) d_Md_isFirst_37 (k := 4) rfl (by rw [ev4_3]; rfl) (by decide) rfl ?_
      refine gd_goto X (tgt := 5) d_Md_isFirst_40 (by decide) ?_
      refine gd_loc (lv' := [(0, .ref (a_self 0)), (1, .int v1), (2, .int v2), (3, .int 0), (4, .int v4_3)]) [2, 3, 4, 1, 0] rfl ?_
      exact hkb 0 v4_3 h
    · replace h := it_n c_2 h
      refine gd_aload_n X d_Md_isFirst_15 0 rfl ?_
      refine gd_iload_n X d_Md_isFirst_16 1 rfl ?_
      refine gd_iload X d_Md_isFirst_17 4 rfl ?_
      obtain ⟨r_4, hc_5, h⟩ := bd1_e h
      refine gd_fI X (gd_V X (As := [.int v1, .int v4]) (rest := []) (c_Md_variableAt l D K a_self a_least N s_self v1 v4 r_4 hc_5) 2 (gi_V ml_Md_161 u_Md_variableAt) rfl ⟨rfl, rfl⟩ (by decide +kernel) ⟨by decide, by decide⟩ (ci := 7) rfl rfl rfl rfl rfl rfl (Nat.le_of_ble_eq_true rfl) ⟨Nat.zero_le _, Nat.zero_le _⟩ d_Md_isFirst_19) ?_
      refine gd_aload_n X d_Md_isFirst_22 0 rfl ?_
      refine gd_iload_n X d_Md_isFirst_23 1 rfl ?_
      refine gd_iload_n X d_Md_isFirst_24 2 rfl ?_
      obtain ⟨r_6, hc_7, h⟩ := bd1_e h
      refine gd_fI X (gd_V X (As := [.int v1, .int v2]) (rest := [.int r_4]) (c_Md_variableAt l D K a_self a_least N s_self v1 v2 r_6 hc_7) 2 (gi_V ml_Md_161 u_Md_variableAt) rfl ⟨rfl, rfl⟩ (by decide +kernel) ⟨by decide, by decide⟩ (ci := 7) rfl rfl rfl rfl rfl rfl (Nat.le_of_ble_eq_true rfl) ⟨Nat.zero_le _, Nat.zero_le _⟩ d_Md_isFirst_25) ?_
      refine gd_icmp_eq X (tgt := 35) d_Md_isFirst_28 (by decide) (fun c_8 => ?_) (fun c_8 => ?_)
      · replace h := it_p c_8 h
        refine gd_iconst X (v := 0) d_Md_isFirst_35 (by decide) ?_
        refine gd_istore_n X (lv' := [(3, .int 0), (0, .ref (a_self 0)), (1, .int v1), (2, .int v2), (4, .int v4)]) d_Md_isFirst_36 rfl (by decide) rfl ?_
        obtain ⟨v4_9, ev4_9, h⟩ := nm_e' h
        refine gd_iinc X (v := v4_9) (lv' := [(4, .int v4_9), (3, .int 0), (0, .ref (a_self 0)), (1, .int v1), (2, .int v2)]) d_Md_isFirst_37 (k := 4) rfl (by rw [ev4_9]; rfl) (by decide) rfl ?_
        refine gd_goto X (tgt := 5) d_Md_isFirst_40 (by decide) ?_
        refine gd_loc (lv' := [(0, .ref (a_self 0)), (1, .int v1), (2, .int v2), (3, .int 0), (4, .int v4_9)]) [2, 3, 4, 1, 0] rfl ?_
        exact hkb 0 v4_9 h
      · replace h := it_n c_8 h
        refine gd_iconst X (v := 1) d_Md_isFirst_31 (by decide) ?_
        refine gd_goto X (tgt := 36) d_Md_isFirst_32 (by decide) ?_
        refine gd_istore_n X (lv' := [(3, .int 1), (0, .ref (a_self 0)), (1, .int v1), (2, .int v2), (4, .int v4)]) d_Md_isFirst_36 rfl (by decide) rfl ?_
        obtain ⟨v4_10, ev4_10, h⟩ := nm_e' h
        refine gd_iinc X (v := v4_10) (lv' := [(4, .int v4_10), (3, .int 1), (0, .ref (a_self 0)), (1, .int v1), (2, .int v2)]) d_Md_isFirst_37 (k := 4) rfl (by rw [ev4_10]; rfl) (by decide) rfl ?_
        refine gd_goto X (tgt := 5) d_Md_isFirst_40 (by decide) ?_
        refine gd_loc (lv' := [(0, .ref (a_self 0)), (1, .int v1), (2, .int v2), (3, .int 1), (4, .int v4_10)]) [2, 3, 4, 1, 0] rfl ?_
        exact hkb 1 v4_10 h
def f_Md_isFirst_43 (N : Nat) (s_self : Nat → Nat → Int32) (v3 : Int32) : Option ((Int32)) :=
  cb v3 <|
  some (v3)
set_option maxHeartbeats 4000000 in
set_option maxRecDepth 100000 in
theorem t_Md_isFirst_43 {p : Program} {l : Launch} {e : Env} {s : State} {m : MethodId} {args : Array Value} {below : List Frame} {meth : Method} {c : Code} {A : Nat → Prop} {D : va_G} {K : Nat → ClassId} (a_self a_least : Nat → Nat) (X : gx p s m args c b_Md_isFirst 5 R_Md w_Md_isFirst D classes (tyK K) A) (hr : meth.sig.returnType = some .boolean) (hlk : meth.locks = false) (N : Nat) (r : Int32) (s_self : Nat → Nat → Int32) (v3 : Int32) (h : f_Md_isFirst_43 N s_self v3 = some r) : Gd p l e rm_Md_isFirst s m args below meth c 0 0 (MQ below (sq D classes (tyK K) (some (.int r)) [wd_Md K a_self (a_least 0) s_self] A) args s 0 0 A) D classes A 5 43 [wd_Md K a_self (a_least 0) s_self] [(3, .int v3)] [] := by
  unfold f_Md_isFirst_43 at h
  refine gd_iload_n X d_Md_isFirst_43 0 rfl ?_
  obtain ⟨hz_1, h⟩ := cb_e h
  cases h
  exact gd_zret X hr hlk hz_1 d_Md_isFirst_44
def l_Md_isFirst_5 (N : Nat) (s_self : Nat → Nat → Int32) (v1 v2 : Int32) (kx43 : Int32 → Option ((Int32))) : Nat → Int32 → Int32 → Option ((Int32))
  | 0, _, _ => none
  | n + 1, v3, v4 => f_Md_isFirst_5 N (l_Md_isFirst_5 N s_self v1 v2 kx43 n) kx43 s_self v1 v2 v3 v4
set_option maxHeartbeats 4000000 in
set_option maxRecDepth 100000 in
theorem tl_Md_isFirst_5 {p : Program} {l : Launch} {e : Env} {s : State} {m : MethodId} {args : Array Value} {below : List Frame} {meth : Method} {c : Code} {A : Nat → Prop} {D : va_G} {K : Nat → ClassId} (a_self a_least : Nat → Nat) (X : gx p s m args c b_Md_isFirst 5 R_Md w_Md_isFirst D classes (tyK K) A) (hr : meth.sig.returnType = some .boolean) (hlk : meth.locks = false) (N : Nat) (r : Int32) (s_self : Nat → Nat → Int32) (v1 v2 : Int32) (kx43 : Int32 → Option ((Int32))) (hkx43 : ∀ (v3 : Int32), kx43 v3 = some r → Gd p l e rm_Md_isFirst s m args below meth c 0 0 (MQ below (sq D classes (tyK K) (some (.int r)) [wd_Md K a_self (a_least 0) s_self] A) args s 0 0 A) D classes A 5 43 [wd_Md K a_self (a_least 0) s_self] [(3, .int v3)] []) : ∀ (n : Nat) (v3 v4 : Int32), l_Md_isFirst_5 N s_self v1 v2 kx43 n v3 v4 = some r → Gd p l e rm_Md_isFirst s m args below meth c 0 0 (MQ below (sq D classes (tyK K) (some (.int r)) [wd_Md K a_self (a_least 0) s_self] A) args s 0 0 A) D classes A 5 5 [wd_Md K a_self (a_least 0) s_self] [(0, .ref (a_self 0)), (1, .int v1), (2, .int v2), (3, .int v3), (4, .int v4)] [] := by
  intro n
  induction n with
  | zero => intro v3 v4 h; have h : (none : Option ((Int32))) = some _ := h; cases h
  | succ n ih =>
    intro v3 v4 h
    exact t_Md_isFirst_5 a_self a_least X hr hlk N r s_self v1 v2 v3 v4 (l_Md_isFirst_5 N s_self v1 v2 kx43 n) ih kx43 hkx43 h
def f_Md_isFirst_0 (N : Nat) (s_self : Nat → Nat → Int32) (v1 v2 : Int32) : Option ((Int32)) :=
  l_Md_isFirst_5 N s_self v1 v2 (fun v3 => f_Md_isFirst_43 N s_self v3) N 1 0
set_option maxHeartbeats 4000000 in
set_option maxRecDepth 100000 in
theorem t_Md_isFirst_0 {p : Program} {l : Launch} {e : Env} {s : State} {m : MethodId} {args : Array Value} {below : List Frame} {meth : Method} {c : Code} {A : Nat → Prop} {D : va_G} {K : Nat → ClassId} (a_self a_least : Nat → Nat) (X : gx p s m args c b_Md_isFirst 5 R_Md w_Md_isFirst D classes (tyK K) A) (hr : meth.sig.returnType = some .boolean) (hlk : meth.locks = false) (N : Nat) (r : Int32) (s_self : Nat → Nat → Int32) (v1 v2 : Int32) (h : f_Md_isFirst_0 N s_self v1 v2 = some r) : Gd p l e rm_Md_isFirst s m args below meth c 0 0 (MQ below (sq D classes (tyK K) (some (.int r)) [wd_Md K a_self (a_least 0) s_self] A) args s 0 0 A) D classes A 5 0 [wd_Md K a_self (a_least 0) s_self] [(0, .ref (a_self 0)), (1, .int v1), (2, .int v2)] [] := by
  unfold f_Md_isFirst_0 at h
  refine gd_iconst X (v := 1) d_Md_isFirst_0 (by decide) ?_
  refine gd_istore_n X (lv' := [(3, .int 1), (0, .ref (a_self 0)), (1, .int v1), (2, .int v2)]) d_Md_isFirst_1 rfl (by decide) rfl ?_
  refine gd_iconst X (v := 0) d_Md_isFirst_2 (by decide) ?_
  refine gd_istore X (lv' := [(4, .int 0), (3, .int 1), (0, .ref (a_self 0)), (1, .int v1), (2, .int v2)]) d_Md_isFirst_3 (by decide) rfl ?_
  refine gd_loc (lv' := [(0, .ref (a_self 0)), (1, .int v1), (2, .int v2), (3, .int 1), (4, .int 0)]) [2, 3, 4, 1, 0] rfl ?_
  exact tl_Md_isFirst_5 a_self a_least X hr hlk N r s_self v1 v2 (fun v3 => f_Md_isFirst_43 N s_self v3) (fun v3 h => t_Md_isFirst_43 a_self a_least X hr hlk N r s_self v3 h) N 1 0 h
def m_Md_isFirst (N : Nat) (s_self : Nat → Nat → Int32) (v1 v2 : Int32) : Option ((Int32)) := f_Md_isFirst_0 N s_self v1 v2
set_option maxHeartbeats 4000000 in
set_option maxRecDepth 100000 in
theorem c_Md_isFirst (l : Launch) (D : va_G) (K : Nat → ClassId) (a_self a_least : Nat → Nat) (N : Nat) (s_self : Nat → Nat → Int32) (v1 v2 : Int32) (r : Int32) (h : m_Md_isFirst N s_self v1 v2 = some r) : SMet l y_Md_isFirst w_Md_isFirst rm_Md_isFirst D classes (tyK K) [.ref (a_self 0), .int v1, .int v2] (some (.int r)) [wd_Md K a_self (a_least 0) s_self] [wd_Md K a_self (a_least 0) s_self] := by
  refine sm_of R_Md (by decide) rfl rfl (Nat.le_of_ble_eq_true rfl) ?_
  intro p e s m below meth c A X hr hlk
  refine gd_loc (lv' := [(0, .ref (a_self 0)), (1, .int v1), (2, .int v2)]) [0, 1, 2] rfl ?_
  exact t_Md_isFirst_0 a_self a_least X hr hlk N r s_self v1 v2 h
abbrev b_Md_differentIn : ByteArray := prog_10_method_39_code
def y_Md_differentIn : MethodName := ⟨R_Md, "differentIn", "(I)I"⟩
def w_Md_differentIn : List Cond := .code y_Md_differentIn b_Md_differentIn 4 (some .int) :: TB
theorem k_Md_differentIn : Cond.code y_Md_differentIn b_Md_differentIn 4 (some .int) ∈ TB := tb_of 1001 (by decide +kernel) (by decide +kernel)
theorem d_Md_differentIn_0 : decode b_Md_differentIn 0 = .ok (.iconst 0, 1) := by decide +kernel
theorem d_Md_differentIn_1 : decode b_Md_differentIn 1 = .ok (.istore_n 2, 1) := by decide +kernel
theorem d_Md_differentIn_2 : decode b_Md_differentIn 2 = .ok (.iconst 0, 1) := by decide +kernel
theorem d_Md_differentIn_3 : decode b_Md_differentIn 3 = .ok (.istore_n 3, 1) := by decide +kernel
theorem d_Md_differentIn_4 : decode b_Md_differentIn 4 = .ok (.iload_n 3, 1) := by decide +kernel
theorem d_Md_differentIn_5 : decode b_Md_differentIn 5 = .ok (.aload_n 0, 1) := by decide +kernel
theorem d_Md_differentIn_6 : decode b_Md_differentIn 6 = .ok (.iload_n 1, 1) := by decide +kernel
theorem d_Md_differentIn_7 : decode b_Md_differentIn 7 = .ok (.invokevirtual 112, 3) := by decide +kernel
theorem d_Md_differentIn_10 : decode b_Md_differentIn 10 = .ok (.if_icmp .ge 26, 3) := by decide +kernel
theorem d_Md_differentIn_13 : decode b_Md_differentIn 13 = .ok (.aload_n 0, 1) := by decide +kernel
theorem d_Md_differentIn_14 : decode b_Md_differentIn 14 = .ok (.iload_n 1, 1) := by decide +kernel
theorem d_Md_differentIn_15 : decode b_Md_differentIn 15 = .ok (.iload_n 3, 1) := by decide +kernel
theorem d_Md_differentIn_16 : decode b_Md_differentIn 16 = .ok (.invokevirtual 201, 3) := by decide +kernel
theorem d_Md_differentIn_19 : decode b_Md_differentIn 19 = .ok (.ifCond .eq 9, 3) := by decide +kernel
theorem d_Md_differentIn_22 : decode b_Md_differentIn 22 = .ok (.iload_n 2, 1) := by decide +kernel
theorem d_Md_differentIn_23 : decode b_Md_differentIn 23 = .ok (.iconst 1, 1) := by decide +kernel
theorem d_Md_differentIn_24 : decode b_Md_differentIn 24 = .ok (.iadd, 1) := by decide +kernel
theorem d_Md_differentIn_25 : decode b_Md_differentIn 25 = .ok (.goto 4, 3) := by decide +kernel
theorem d_Md_differentIn_28 : decode b_Md_differentIn 28 = .ok (.iload_n 2, 1) := by decide +kernel
theorem d_Md_differentIn_29 : decode b_Md_differentIn 29 = .ok (.istore_n 2, 1) := by decide +kernel
theorem d_Md_differentIn_30 : decode b_Md_differentIn 30 = .ok (.iinc 3 1, 3) := by decide +kernel
theorem d_Md_differentIn_33 : decode b_Md_differentIn 33 = .ok (.goto (-29), 3) := by decide +kernel
theorem d_Md_differentIn_36 : decode b_Md_differentIn 36 = .ok (.iload_n 2, 1) := by decide +kernel
theorem d_Md_differentIn_37 : decode b_Md_differentIn 37 = .ok (.ireturn, 1) := by decide +kernel
theorem ml_Md_201 : Cond.methodLink R_Md 201 ⟨"RuleTreesModel", "isFirst", "(II)Z"⟩ ∈ TB := tb_of 986 (by decide +kernel) (by decide +kernel)
theorem u_Md_isFirst : (Cond.instanceMethod y_Md_isFirst ∈ TB ∧ Cond.selects R_Md y_Md_isFirst y_Md_isFirst ∈ TB) ∧ Cond.initialized R_Md ∈ TB ∧ Cond.code y_Md_isFirst b_Md_isFirst 5 (some .boolean) ∈ TB := ⟨⟨(tb_of 988 (by decide +kernel) (by decide +kernel)), (tb_of 57 (by decide +kernel) (by decide +kernel))⟩, (tb_of 70 (by decide +kernel) (by decide +kernel)), k_Md_isFirst⟩
abbrev rm_Md_differentIn : Room := { frames := 2, cells := 0, slots := 0, locals := 49 }
def f_Md_differentIn_4 (N : Nat) (kb : Int32 → Int32 → Option ((Int32))) (kx36 : Int32 → Option ((Int32))) (s_self : Nat → Nat → Int32) (v1 v2 v3 : Int32) : Option ((Int32)) :=
  bd1 (m_Md_variablesIn N s_self v1) fun r_1 =>
  if r_1 ≤ v3 then
    kx36 v2
  else
    bd1 (m_Md_isFirst N s_self v1 v3) fun r_4 =>
    if r_4 = 0 then
      nm (v3 + 1) fun v3_7 =>
      kb v2 v3_7
    else
      nm (v2 + 1) fun v2_8 =>
      nm (v3 + 1) fun v3_9 =>
      kb v2_8 v3_9
set_option maxHeartbeats 4000000 in
set_option maxRecDepth 100000 in
theorem t_Md_differentIn_4 {p : Program} {l : Launch} {e : Env} {s : State} {m : MethodId} {args : Array Value} {below : List Frame} {meth : Method} {c : Code} {A : Nat → Prop} {D : va_G} {K : Nat → ClassId} (a_self a_least : Nat → Nat) (X : gx p s m args c b_Md_differentIn 4 R_Md w_Md_differentIn D classes (tyK K) A) (hr : meth.sig.returnType = some .int) (hlk : meth.locks = false) (N : Nat) (r : Int32) (s_self : Nat → Nat → Int32) (v1 v2 v3 : Int32) (kb : Int32 → Int32 → Option ((Int32))) (hkb : ∀ (v2 v3 : Int32), kb v2 v3 = some r → Gd p l e rm_Md_differentIn s m args below meth c 0 0 (MQ below (sq D classes (tyK K) (some (.int r)) [wd_Md K a_self (a_least 0) s_self] A) args s 0 0 A) D classes A 4 4 [wd_Md K a_self (a_least 0) s_self] [(0, .ref (a_self 0)), (1, .int v1), (2, .int v2), (3, .int v3)] []) (kx36 : Int32 → Option ((Int32))) (hkx36 : ∀ (v2 : Int32), kx36 v2 = some r → Gd p l e rm_Md_differentIn s m args below meth c 0 0 (MQ below (sq D classes (tyK K) (some (.int r)) [wd_Md K a_self (a_least 0) s_self] A) args s 0 0 A) D classes A 4 36 [wd_Md K a_self (a_least 0) s_self] [(2, .int v2)] []) (h : f_Md_differentIn_4 N kb kx36 s_self v1 v2 v3 = some r) : Gd p l e rm_Md_differentIn s m args below meth c 0 0 (MQ below (sq D classes (tyK K) (some (.int r)) [wd_Md K a_self (a_least 0) s_self] A) args s 0 0 A) D classes A 4 4 [wd_Md K a_self (a_least 0) s_self] [(0, .ref (a_self 0)), (1, .int v1), (2, .int v2), (3, .int v3)] [] := by
  unfold f_Md_differentIn_4 at h
  refine gd_iload_n X d_Md_differentIn_4 3 rfl ?_
  refine gd_aload_n X d_Md_differentIn_5 0 rfl ?_
  refine gd_iload_n X d_Md_differentIn_6 1 rfl ?_
  obtain ⟨r_1, hc_2, h⟩ := bd1_e h
  refine gd_fI X (gd_V X (As := [.int v1]) (rest := [.int v3]) (c_Md_variablesIn l D K a_self a_least N s_self v1 r_1 hc_2) 1 (gi_V ml_Md_112 u_Md_variablesIn) rfl ⟨rfl, rfl⟩ (by decide +kernel) ⟨by decide, by decide⟩ (ci := 7) rfl rfl rfl rfl rfl rfl (Nat.le_of_ble_eq_true rfl) ⟨Nat.zero_le _, Nat.zero_le _⟩ d_Md_differentIn_7) ?_
  refine gd_icmp_ge X (tgt := 36) d_Md_differentIn_10 (by decide) (fun c_3 => ?_) (fun c_3 => ?_)
  · replace h := it_p c_3 h
    refine gd_loc (lv' := [(2, .int v2)]) [2] rfl ?_
    exact hkx36 v2 h
  · replace h := it_n c_3 h
    refine gd_aload_n X d_Md_differentIn_13 0 rfl ?_
    refine gd_iload_n X d_Md_differentIn_14 1 rfl ?_
    refine gd_iload_n X d_Md_differentIn_15 3 rfl ?_
    obtain ⟨r_4, hc_5, h⟩ := bd1_e h
    refine gd_fI X (gd_V X (As := [.int v1, .int v3]) (rest := []) (c_Md_isFirst l D K a_self a_least N s_self v1 v3 r_4 hc_5) 2 (gi_V ml_Md_201 u_Md_isFirst) rfl ⟨rfl, rfl⟩ (by decide +kernel) ⟨by decide, by decide⟩ (ci := 7) rfl rfl rfl rfl rfl rfl (Nat.le_of_ble_eq_true rfl) ⟨Nat.zero_le _, Nat.zero_le _⟩ d_Md_differentIn_16) ?_
    refine gd_if_eq X (tgt := 28) d_Md_differentIn_19 (by decide) (fun c_6 => ?_) (fun c_6 => ?_)
    · replace h := it_p c_6 h
      refine gd_iload_n X d_Md_differentIn_28 2 rfl ?_
      refine gd_istore_n X (lv' := [(2, .int v2), (0, .ref (a_self 0)), (1, .int v1), (3, .int v3)]) d_Md_differentIn_29 rfl (by decide) rfl ?_
      obtain ⟨v3_7, ev3_7, h⟩ := nm_e' h
      refine gd_iinc X (v := v3_7) (lv' := [(3, .int v3_7), (2, .int v2), (0, .ref (a_self 0)), (1, .int v1)]) d_Md_differentIn_30 (k := 3) rfl (by rw [ev3_7]; rfl) (by decide) rfl ?_
      refine gd_goto X (tgt := 4) d_Md_differentIn_33 (by decide) ?_
      refine gd_loc (lv' := [(0, .ref (a_self 0)), (1, .int v1), (2, .int v2), (3, .int v3_7)]) [2, 3, 1, 0] rfl ?_
      exact hkb v2 v3_7 h
    · replace h := it_n c_6 h
      refine gd_iload_n X d_Md_differentIn_22 2 rfl ?_
      refine gd_iconst X (v := 1) d_Md_differentIn_23 (by decide) ?_
      refine gd_iadd X d_Md_differentIn_24 ?_
      refine gd_goto X (tgt := 29) d_Md_differentIn_25 (by decide) ?_
      obtain ⟨v2_8, ev2_8, h⟩ := nm_e' h
      refine gd_topi ev2_8 ?_
      refine gd_istore_n X (lv' := [(2, .int v2_8), (0, .ref (a_self 0)), (1, .int v1), (3, .int v3)]) d_Md_differentIn_29 rfl (by decide) rfl ?_
      obtain ⟨v3_9, ev3_9, h⟩ := nm_e' h
      refine gd_iinc X (v := v3_9) (lv' := [(3, .int v3_9), (2, .int v2_8), (0, .ref (a_self 0)), (1, .int v1)]) d_Md_differentIn_30 (k := 3) rfl (by rw [ev3_9]; rfl) (by decide) rfl ?_
      refine gd_goto X (tgt := 4) d_Md_differentIn_33 (by decide) ?_
      refine gd_loc (lv' := [(0, .ref (a_self 0)), (1, .int v1), (2, .int v2_8), (3, .int v3_9)]) [2, 3, 1, 0] rfl ?_
      exact hkb v2_8 v3_9 h
def f_Md_differentIn_36 (N : Nat) (s_self : Nat → Nat → Int32) (v2 : Int32) : Option ((Int32)) :=
  some (v2)
set_option maxHeartbeats 4000000 in
set_option maxRecDepth 100000 in
theorem t_Md_differentIn_36 {p : Program} {l : Launch} {e : Env} {s : State} {m : MethodId} {args : Array Value} {below : List Frame} {meth : Method} {c : Code} {A : Nat → Prop} {D : va_G} {K : Nat → ClassId} (a_self a_least : Nat → Nat) (X : gx p s m args c b_Md_differentIn 4 R_Md w_Md_differentIn D classes (tyK K) A) (hr : meth.sig.returnType = some .int) (hlk : meth.locks = false) (N : Nat) (r : Int32) (s_self : Nat → Nat → Int32) (v2 : Int32) (h : f_Md_differentIn_36 N s_self v2 = some r) : Gd p l e rm_Md_differentIn s m args below meth c 0 0 (MQ below (sq D classes (tyK K) (some (.int r)) [wd_Md K a_self (a_least 0) s_self] A) args s 0 0 A) D classes A 4 36 [wd_Md K a_self (a_least 0) s_self] [(2, .int v2)] [] := by
  unfold f_Md_differentIn_36 at h
  refine gd_iload_n X d_Md_differentIn_36 0 rfl ?_
  cases h
  exact gd_iret X hr hlk d_Md_differentIn_37
def l_Md_differentIn_4 (N : Nat) (s_self : Nat → Nat → Int32) (v1 : Int32) (kx36 : Int32 → Option ((Int32))) : Nat → Int32 → Int32 → Option ((Int32))
  | 0, _, _ => none
  | n + 1, v2, v3 => f_Md_differentIn_4 N (l_Md_differentIn_4 N s_self v1 kx36 n) kx36 s_self v1 v2 v3
set_option maxHeartbeats 4000000 in
set_option maxRecDepth 100000 in
theorem tl_Md_differentIn_4 {p : Program} {l : Launch} {e : Env} {s : State} {m : MethodId} {args : Array Value} {below : List Frame} {meth : Method} {c : Code} {A : Nat → Prop} {D : va_G} {K : Nat → ClassId} (a_self a_least : Nat → Nat) (X : gx p s m args c b_Md_differentIn 4 R_Md w_Md_differentIn D classes (tyK K) A) (hr : meth.sig.returnType = some .int) (hlk : meth.locks = false) (N : Nat) (r : Int32) (s_self : Nat → Nat → Int32) (v1 : Int32) (kx36 : Int32 → Option ((Int32))) (hkx36 : ∀ (v2 : Int32), kx36 v2 = some r → Gd p l e rm_Md_differentIn s m args below meth c 0 0 (MQ below (sq D classes (tyK K) (some (.int r)) [wd_Md K a_self (a_least 0) s_self] A) args s 0 0 A) D classes A 4 36 [wd_Md K a_self (a_least 0) s_self] [(2, .int v2)] []) : ∀ (n : Nat) (v2 v3 : Int32), l_Md_differentIn_4 N s_self v1 kx36 n v2 v3 = some r → Gd p l e rm_Md_differentIn s m args below meth c 0 0 (MQ below (sq D classes (tyK K) (some (.int r)) [wd_Md K a_self (a_least 0) s_self] A) args s 0 0 A) D classes A 4 4 [wd_Md K a_self (a_least 0) s_self] [(0, .ref (a_self 0)), (1, .int v1), (2, .int v2), (3, .int v3)] [] := by
  intro n
  induction n with
  | zero => intro v2 v3 h; have h : (none : Option ((Int32))) = some _ := h; cases h
  | succ n ih =>
    intro v2 v3 h
    exact t_Md_differentIn_4 a_self a_least X hr hlk N r s_self v1 v2 v3 (l_Md_differentIn_4 N s_self v1 kx36 n) ih kx36 hkx36 h
def f_Md_differentIn_0 (N : Nat) (s_self : Nat → Nat → Int32) (v1 : Int32) : Option ((Int32)) :=
  l_Md_differentIn_4 N s_self v1 (fun v2 => f_Md_differentIn_36 N s_self v2) N 0 0
set_option maxHeartbeats 4000000 in
set_option maxRecDepth 100000 in
theorem t_Md_differentIn_0 {p : Program} {l : Launch} {e : Env} {s : State} {m : MethodId} {args : Array Value} {below : List Frame} {meth : Method} {c : Code} {A : Nat → Prop} {D : va_G} {K : Nat → ClassId} (a_self a_least : Nat → Nat) (X : gx p s m args c b_Md_differentIn 4 R_Md w_Md_differentIn D classes (tyK K) A) (hr : meth.sig.returnType = some .int) (hlk : meth.locks = false) (N : Nat) (r : Int32) (s_self : Nat → Nat → Int32) (v1 : Int32) (h : f_Md_differentIn_0 N s_self v1 = some r) : Gd p l e rm_Md_differentIn s m args below meth c 0 0 (MQ below (sq D classes (tyK K) (some (.int r)) [wd_Md K a_self (a_least 0) s_self] A) args s 0 0 A) D classes A 4 0 [wd_Md K a_self (a_least 0) s_self] [(0, .ref (a_self 0)), (1, .int v1)] [] := by
  unfold f_Md_differentIn_0 at h
  refine gd_iconst X (v := 0) d_Md_differentIn_0 (by decide) ?_
  refine gd_istore_n X (lv' := [(2, .int 0), (0, .ref (a_self 0)), (1, .int v1)]) d_Md_differentIn_1 rfl (by decide) rfl ?_
  refine gd_iconst X (v := 0) d_Md_differentIn_2 (by decide) ?_
  refine gd_istore_n X (lv' := [(3, .int 0), (2, .int 0), (0, .ref (a_self 0)), (1, .int v1)]) d_Md_differentIn_3 rfl (by decide) rfl ?_
  refine gd_loc (lv' := [(0, .ref (a_self 0)), (1, .int v1), (2, .int 0), (3, .int 0)]) [2, 3, 1, 0] rfl ?_
  exact tl_Md_differentIn_4 a_self a_least X hr hlk N r s_self v1 (fun v2 => f_Md_differentIn_36 N s_self v2) (fun v2 h => t_Md_differentIn_36 a_self a_least X hr hlk N r s_self v2 h) N 0 0 h
def m_Md_differentIn (N : Nat) (s_self : Nat → Nat → Int32) (v1 : Int32) : Option ((Int32)) := f_Md_differentIn_0 N s_self v1
set_option maxHeartbeats 4000000 in
set_option maxRecDepth 100000 in
theorem c_Md_differentIn (l : Launch) (D : va_G) (K : Nat → ClassId) (a_self a_least : Nat → Nat) (N : Nat) (s_self : Nat → Nat → Int32) (v1 : Int32) (r : Int32) (h : m_Md_differentIn N s_self v1 = some r) : SMet l y_Md_differentIn w_Md_differentIn rm_Md_differentIn D classes (tyK K) [.ref (a_self 0), .int v1] (some (.int r)) [wd_Md K a_self (a_least 0) s_self] [wd_Md K a_self (a_least 0) s_self] := by
  refine sm_of R_Md (by decide) rfl rfl (Nat.le_of_ble_eq_true rfl) ?_
  intro p e s m below meth c A X hr hlk
  refine gd_loc (lv' := [(0, .ref (a_self 0)), (1, .int v1)]) [0, 1] rfl ?_
  exact t_Md_differentIn_0 a_self a_least X hr hlk N r s_self v1 h
abbrev b_Md_look : ByteArray := prog_10_method_41_code
def y_Md_look : MethodName := ⟨R_Md, "look", "(II)I"⟩
def w_Md_look : List Cond := .code y_Md_look b_Md_look 3 (some .int) :: TB
theorem k_Md_look : Cond.code y_Md_look b_Md_look 3 (some .int) ∈ TB := tb_of 985 (by decide +kernel) (by decide +kernel)
theorem d_Md_look_0 : decode b_Md_look 0 = .ok (.iload_n 1, 1) := by decide +kernel
theorem d_Md_look_1 : decode b_Md_look 1 = .ok (.ifCond .ge 34, 3) := by decide +kernel
theorem d_Md_look_4 : decode b_Md_look 4 = .ok (.iload_n 1, 1) := by decide +kernel
theorem d_Md_look_5 : decode b_Md_look 5 = .ok (.aload_n 0, 1) := by decide +kernel
theorem d_Md_look_6 : decode b_Md_look 6 = .ok (.getfield 92, 3) := by decide +kernel
theorem d_Md_look_9 : decode b_Md_look 9 = .ok (.ineg, 1) := by decide +kernel
theorem d_Md_look_10 : decode b_Md_look 10 = .ok (.if_icmp .ge 7, 3) := by decide +kernel
theorem d_Md_look_13 : decode b_Md_look 13 = .ok (.iconst 2, 1) := by decide +kernel
theorem d_Md_look_14 : decode b_Md_look 14 = .ok (.goto 20, 3) := by decide +kernel
theorem d_Md_look_17 : decode b_Md_look 17 = .ok (.aload_n 0, 1) := by decide +kernel
theorem d_Md_look_18 : decode b_Md_look 18 = .ok (.getfield 7, 3) := by decide +kernel
theorem d_Md_look_21 : decode b_Md_look 21 = .ok (.iconst (-1), 1) := by decide +kernel
theorem d_Md_look_22 : decode b_Md_look 22 = .ok (.iload_n 1, 1) := by decide +kernel
theorem d_Md_look_23 : decode b_Md_look 23 = .ok (.isub, 1) := by decide +kernel
theorem d_Md_look_24 : decode b_Md_look 24 = .ok (.iaload, 1) := by decide +kernel
theorem d_Md_look_25 : decode b_Md_look 25 = .ok (.iload_n 2, 1) := by decide +kernel
theorem d_Md_look_26 : decode b_Md_look 26 = .ok (.if_icmp .ne 7, 3) := by decide +kernel
theorem d_Md_look_29 : decode b_Md_look 29 = .ok (.iconst 0, 1) := by decide +kernel
theorem d_Md_look_30 : decode b_Md_look 30 = .ok (.goto 4, 3) := by decide +kernel
theorem d_Md_look_33 : decode b_Md_look 33 = .ok (.iconst 3, 1) := by decide +kernel
theorem d_Md_look_34 : decode b_Md_look 34 = .ok (.ireturn, 1) := by decide +kernel
theorem d_Md_look_35 : decode b_Md_look 35 = .ok (.iload_n 1, 1) := by decide +kernel
theorem d_Md_look_36 : decode b_Md_look 36 = .ok (.aload_n 0, 1) := by decide +kernel
theorem d_Md_look_37 : decode b_Md_look 37 = .ok (.getfield 103, 3) := by decide +kernel
theorem d_Md_look_40 : decode b_Md_look 40 = .ok (.if_icmp .lt 7, 3) := by decide +kernel
theorem d_Md_look_43 : decode b_Md_look 43 = .ok (.iconst 2, 1) := by decide +kernel
theorem d_Md_look_44 : decode b_Md_look 44 = .ok (.goto 18, 3) := by decide +kernel
theorem d_Md_look_47 : decode b_Md_look 47 = .ok (.aload_n 0, 1) := by decide +kernel
theorem d_Md_look_48 : decode b_Md_look 48 = .ok (.getfield 13, 3) := by decide +kernel
theorem d_Md_look_51 : decode b_Md_look 51 = .ok (.iload_n 1, 1) := by decide +kernel
theorem d_Md_look_52 : decode b_Md_look 52 = .ok (.iaload, 1) := by decide +kernel
theorem d_Md_look_53 : decode b_Md_look 53 = .ok (.iload_n 2, 1) := by decide +kernel
theorem d_Md_look_54 : decode b_Md_look 54 = .ok (.if_icmp .ne 7, 3) := by decide +kernel
theorem d_Md_look_57 : decode b_Md_look 57 = .ok (.iconst 0, 1) := by decide +kernel
theorem d_Md_look_58 : decode b_Md_look 58 = .ok (.goto 4, 3) := by decide +kernel
theorem d_Md_look_61 : decode b_Md_look 61 = .ok (.iconst 3, 1) := by decide +kernel
theorem d_Md_look_62 : decode b_Md_look 62 = .ok (.ireturn, 1) := by decide +kernel
abbrev rm_Md_look : Room := { frames := 0, cells := 0, slots := 0, locals := 0 }
def f_Md_look_0 (s_self : Nat → Nat → Int32) (v1 v2 : Int32) : Option ((Int32)) :=
  if 0 ≤ v1 then
    if v1 < (s_self 0 4) then
      ck v1 31 <|
      if (s_self 2 (Int32.toNatClampNeg v1)) = v2 then
        some (0)
      else
        some (3)
    else
      some (2)
  else
    if (-(s_self 0 2)) ≤ v1 then
      ck ((-1) - v1) 20 <|
      if (s_self 1 (Int32.toNatClampNeg ((-1) - v1))) = v2 then
        some (0)
      else
        some (3)
    else
      some (2)
set_option maxHeartbeats 4000000 in
set_option maxRecDepth 100000 in
theorem t_Md_look_0 {p : Program} {l : Launch} {e : Env} {s : State} {m : MethodId} {args : Array Value} {below : List Frame} {meth : Method} {c : Code} {A : Nat → Prop} {D : va_G} {K : Nat → ClassId} (a_self a_least : Nat → Nat) (X : gx p s m args c b_Md_look 3 R_Md w_Md_look D classes (tyK K) A) (hr : meth.sig.returnType = some .int) (hlk : meth.locks = false) (r : Int32) (s_self : Nat → Nat → Int32) (v1 v2 : Int32) (h : f_Md_look_0 s_self v1 v2 = some r) : Gd p l e rm_Md_look s m args below meth c 0 0 (MQ below (sq D classes (tyK K) (some (.int r)) [wd_Md K a_self (a_least 0) s_self] A) args s 0 0 A) D classes A 3 0 [wd_Md K a_self (a_least 0) s_self] [(0, .ref (a_self 0)), (1, .int v1), (2, .int v2)] [] := by
  unfold f_Md_look_0 at h
  refine gd_iload_n X d_Md_look_0 1 rfl ?_
  refine gd_if_ge X (tgt := 35) d_Md_look_1 (by decide) (fun c_1 => ?_) (fun c_1 => ?_)
  · replace h := it_p c_1 h
    refine gd_iload_n X d_Md_look_35 1 rfl ?_
    refine gd_aload_n X d_Md_look_36 0 rfl ?_
    refine gd_get X (ci := 7) (C := R_Md) (T := F_Md) (N := 36) (v := .int (s_self 0 4)) 0 0 rfl rfl rfl (in_Md _) 4 (by decide) (List.mem_cons_of_mem _ fl_Md_103) rfl rfl d_Md_look_37 ?_
    refine gd_icmp_lt X (tgt := 47) d_Md_look_40 (by decide) (fun c_2 => ?_) (fun c_2 => ?_)
    · replace h := it_p c_2 h
      refine gd_aload_n X d_Md_look_47 0 rfl ?_
      refine gd_get X (ci := 7) (C := R_Md) (T := F_Md) (N := 36) (v := .ref (a_self 2)) 0 0 rfl rfl rfl (in_Md _) 6 (by decide) (List.mem_cons_of_mem _ fl_Md_13) rfl rfl d_Md_look_48 ?_
      refine gd_iload_n X d_Md_look_51 1 rfl ?_
      obtain ⟨hi_3, h⟩ := ck_e h
      refine gd_iald X 0 2 0 rfl rfl rfl hi_3 d_Md_look_52 ?_
      refine gd_iload_n X d_Md_look_53 2 rfl ?_
      refine gd_icmp_ne X (tgt := 61) d_Md_look_54 (by decide) (fun c_4 => ?_) (fun c_4 => ?_)
      · replace h := it_n c_4 h
        refine gd_iconst X (v := 3) d_Md_look_61 (by decide) ?_
        cases h
        exact gd_iret X hr hlk d_Md_look_62
      · replace h := it_p c_4 h
        refine gd_iconst X (v := 0) d_Md_look_57 (by decide) ?_
        refine gd_goto X (tgt := 62) d_Md_look_58 (by decide) ?_
        cases h
        exact gd_iret X hr hlk d_Md_look_62
    · replace h := it_n c_2 h
      refine gd_iconst X (v := 2) d_Md_look_43 (by decide) ?_
      refine gd_goto X (tgt := 62) d_Md_look_44 (by decide) ?_
      cases h
      exact gd_iret X hr hlk d_Md_look_62
  · replace h := it_n c_1 h
    refine gd_iload_n X d_Md_look_4 1 rfl ?_
    refine gd_aload_n X d_Md_look_5 0 rfl ?_
    refine gd_get X (ci := 7) (C := R_Md) (T := F_Md) (N := 36) (v := .int (s_self 0 2)) 0 0 rfl rfl rfl (in_Md _) 2 (by decide) (List.mem_cons_of_mem _ fl_Md_92) rfl rfl d_Md_look_6 ?_
    refine gd_ineg X d_Md_look_9 ?_
    refine gd_icmp_ge X (tgt := 17) d_Md_look_10 (by decide) (fun c_5 => ?_) (fun c_5 => ?_)
    · replace h := it_p c_5 h
      refine gd_aload_n X d_Md_look_17 0 rfl ?_
      refine gd_get X (ci := 7) (C := R_Md) (T := F_Md) (N := 36) (v := .ref (a_self 1)) 0 0 rfl rfl rfl (in_Md _) 3 (by decide) (List.mem_cons_of_mem _ fl_Md_7) rfl rfl d_Md_look_18 ?_
      refine gd_iconst X (v := (-1)) d_Md_look_21 (by decide) ?_
      refine gd_iload_n X d_Md_look_22 1 rfl ?_
      refine gd_isub X d_Md_look_23 ?_
      obtain ⟨hi_6, h⟩ := ck_e h
      refine gd_iald X 0 1 0 rfl rfl rfl hi_6 d_Md_look_24 ?_
      refine gd_iload_n X d_Md_look_25 2 rfl ?_
      refine gd_icmp_ne X (tgt := 33) d_Md_look_26 (by decide) (fun c_7 => ?_) (fun c_7 => ?_)
      · replace h := it_n c_7 h
        refine gd_iconst X (v := 3) d_Md_look_33 (by decide) ?_
        cases h
        exact gd_iret X hr hlk d_Md_look_34
      · replace h := it_p c_7 h
        refine gd_iconst X (v := 0) d_Md_look_29 (by decide) ?_
        refine gd_goto X (tgt := 34) d_Md_look_30 (by decide) ?_
        cases h
        exact gd_iret X hr hlk d_Md_look_34
    · replace h := it_n c_5 h
      refine gd_iconst X (v := 2) d_Md_look_13 (by decide) ?_
      refine gd_goto X (tgt := 34) d_Md_look_14 (by decide) ?_
      cases h
      exact gd_iret X hr hlk d_Md_look_34
def m_Md_look (s_self : Nat → Nat → Int32) (v1 v2 : Int32) : Option ((Int32)) := f_Md_look_0 s_self v1 v2
set_option maxHeartbeats 4000000 in
set_option maxRecDepth 100000 in
theorem c_Md_look (l : Launch) (D : va_G) (K : Nat → ClassId) (a_self a_least : Nat → Nat) (s_self : Nat → Nat → Int32) (v1 v2 : Int32) (r : Int32) (h : m_Md_look s_self v1 v2 = some r) : SMet l y_Md_look w_Md_look rm_Md_look D classes (tyK K) [.ref (a_self 0), .int v1, .int v2] (some (.int r)) [wd_Md K a_self (a_least 0) s_self] [wd_Md K a_self (a_least 0) s_self] := by
  refine sm_of R_Md (by decide) rfl rfl (Nat.le_of_ble_eq_true rfl) ?_
  intro p e s m below meth c A X hr hlk
  refine gd_loc (lv' := [(0, .ref (a_self 0)), (1, .int v1), (2, .int v2)]) [0, 1, 2] rfl ?_
  exact t_Md_look_0 a_self a_least X hr hlk r s_self v1 v2 h
