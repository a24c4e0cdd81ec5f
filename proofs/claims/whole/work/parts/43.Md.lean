abbrev b_Md_know : ByteArray := prog_10_method_31_code
def y_Md_know : MethodName := ⟨R_Md, "know", "()V"⟩
def w_Md_know : List Cond := .code y_Md_know b_Md_know 3 none :: TB
theorem k_Md_know : Cond.code y_Md_know b_Md_know 3 none ∈ TB := tb_of 878 (by decide +kernel) (by decide +kernel)
theorem d_Md_know_0 : decode b_Md_know 0 = .ok (.aload_n 0, 1) := by decide +kernel
theorem d_Md_know_1 : decode b_Md_know 1 = .ok (.getfield 95, 3) := by decide +kernel
theorem d_Md_know_4 : decode b_Md_know 4 = .ok (.ifCond .eq 4, 3) := by decide +kernel
theorem d_Md_know_7 : decode b_Md_know 7 = .ok (.return_, 1) := by decide +kernel
theorem d_Md_know_8 : decode b_Md_know 8 = .ok (.aload_n 0, 1) := by decide +kernel
theorem d_Md_know_9 : decode b_Md_know 9 = .ok (.iconst 1, 1) := by decide +kernel
theorem d_Md_know_10 : decode b_Md_know 10 = .ok (.putfield 95, 3) := by decide +kernel
theorem d_Md_know_13 : decode b_Md_know 13 = .ok (.aload_n 0, 1) := by decide +kernel
theorem d_Md_know_14 : decode b_Md_know 14 = .ok (.invokevirtual 185, 3) := by decide +kernel
theorem d_Md_know_17 : decode b_Md_know 17 = .ok (.iconst 1, 1) := by decide +kernel
theorem d_Md_know_18 : decode b_Md_know 18 = .ok (.istore_n 1, 1) := by decide +kernel
theorem d_Md_know_19 : decode b_Md_know 19 = .ok (.iload_n 1, 1) := by decide +kernel
theorem d_Md_know_20 : decode b_Md_know 20 = .ok (.aload_n 0, 1) := by decide +kernel
theorem d_Md_know_21 : decode b_Md_know 21 = .ok (.getfield 116, 3) := by decide +kernel
theorem d_Md_know_24 : decode b_Md_know 24 = .ok (.if_icmp .gt 35, 3) := by decide +kernel
theorem d_Md_know_27 : decode b_Md_know 27 = .ok (.iconst 0, 1) := by decide +kernel
theorem d_Md_know_28 : decode b_Md_know 28 = .ok (.istore_n 2, 1) := by decide +kernel
theorem d_Md_know_29 : decode b_Md_know 29 = .ok (.iload_n 2, 1) := by decide +kernel
theorem d_Md_know_30 : decode b_Md_know 30 = .ok (.iload_n 1, 1) := by decide +kernel
theorem d_Md_know_31 : decode b_Md_know 31 = .ok (.iadd, 1) := by decide +kernel
theorem d_Md_know_32 : decode b_Md_know 32 = .ok (.aload_n 0, 1) := by decide +kernel
theorem d_Md_know_33 : decode b_Md_know 33 = .ok (.getfield 116, 3) := by decide +kernel
theorem d_Md_know_36 : decode b_Md_know 36 = .ok (.if_icmp .gt 17, 3) := by decide +kernel
theorem d_Md_know_39 : decode b_Md_know 39 = .ok (.aload_n 0, 1) := by decide +kernel
theorem d_Md_know_40 : decode b_Md_know 40 = .ok (.iload_n 2, 1) := by decide +kernel
theorem d_Md_know_41 : decode b_Md_know 41 = .ok (.iload_n 2, 1) := by decide +kernel
theorem d_Md_know_42 : decode b_Md_know 42 = .ok (.iload_n 1, 1) := by decide +kernel
theorem d_Md_know_43 : decode b_Md_know 43 = .ok (.iadd, 1) := by decide +kernel
theorem d_Md_know_44 : decode b_Md_know 44 = .ok (.invokevirtual 188, 3) := by decide +kernel
theorem d_Md_know_47 : decode b_Md_know 47 = .ok (.iinc 2 1, 3) := by decide +kernel
theorem d_Md_know_50 : decode b_Md_know 50 = .ok (.goto (-21), 3) := by decide +kernel
theorem d_Md_know_53 : decode b_Md_know 53 = .ok (.iinc 1 1, 3) := by decide +kernel
theorem d_Md_know_56 : decode b_Md_know 56 = .ok (.goto (-37), 3) := by decide +kernel
theorem d_Md_know_59 : decode b_Md_know 59 = .ok (.return_, 1) := by decide +kernel
theorem ml_Md_188 : Cond.methodLink R_Md 188 ⟨"RuleTreesModel", "takeStretch", "(II)V"⟩ ∈ TB := tb_of 887 (by decide +kernel) (by decide +kernel)
theorem u_Md_takeStretch : (Cond.instanceMethod y_Md_takeStretch ∈ TB ∧ Cond.selects R_Md y_Md_takeStretch y_Md_takeStretch ∈ TB) ∧ Cond.initialized R_Md ∈ TB ∧ Cond.code y_Md_takeStretch b_Md_takeStretch 7 none ∈ TB := ⟨⟨(tb_of 889 (by decide +kernel) (by decide +kernel)), (tb_of 41 (by decide +kernel) (by decide +kernel))⟩, (tb_of 70 (by decide +kernel) (by decide +kernel)), k_Md_takeStretch⟩
theorem ml_Md_185 : Cond.methodLink R_Md 185 ⟨"RuleTreesModel", "findComes", "()V"⟩ ∈ TB := tb_of 879 (by decide +kernel) (by decide +kernel)
theorem u_Md_findComes : (Cond.instanceMethod y_Md_findComes ∈ TB ∧ Cond.selects R_Md y_Md_findComes y_Md_findComes ∈ TB) ∧ Cond.initialized R_Md ∈ TB ∧ Cond.code y_Md_findComes b_Md_findComes 4 none ∈ TB := ⟨⟨(tb_of 881 (by decide +kernel) (by decide +kernel)), (tb_of 39 (by decide +kernel) (by decide +kernel))⟩, (tb_of 70 (by decide +kernel) (by decide +kernel)), k_Md_findComes⟩
abbrev rm_Md_know : Room := { frames := 5, cells := 0, slots := 0, locals := 130 }
def f_Md_know_29 (N : Nat) (kb : (Nat → Nat → Int32) → Int32 → Option ((Nat → Nat → Int32))) (kx53 : (Nat → Nat → Int32) → Option ((Nat → Nat → Int32))) (s_self : Nat → Nat → Int32) (v1 v2 : Int32) : Option ((Nat → Nat → Int32)) :=
  if (s_self 0 10) < (v2 + v1) then
    kx53 s_self
  else
    bd1 (m_Md_takeStretch N s_self v2 (v2 + v1)) fun s_self_2 =>
    nm (v2 + 1) fun v2_4 =>
    kb s_self_2 v2_4
set_option maxHeartbeats 4000000 in
set_option maxRecDepth 100000 in
theorem t_Md_know_29 {p : Program} {l : Launch} {e : Env} {s : State} {m : MethodId} {args : Array Value} {below : List Frame} {meth : Method} {c : Code} {A : Nat → Prop} {D : va_G} {K : Nat → ClassId} (a_self a_least : Nat → Nat) (X : gx p s m args c b_Md_know 3 R_Md w_Md_know D classes (tyK K) A) (hr : meth.sig.returnType = none) (hlk : meth.locks = false) (N : Nat) (f_self : Nat → Nat → Int32) (s_self : Nat → Nat → Int32) (v1 v2 : Int32) (kb : (Nat → Nat → Int32) → Int32 → Option ((Nat → Nat → Int32))) (hkb : ∀ (s_self : Nat → Nat → Int32) (v2 : Int32), kb s_self v2 = some f_self → Gd p l e rm_Md_know s m args below meth c 0 0 (MQ below (sq D classes (tyK K) none [wd_Md K a_self (a_least 0) f_self] A) args s 0 0 A) D classes A 3 29 [wd_Md K a_self (a_least 0) s_self] [(0, .ref (a_self 0)), (1, .int v1), (2, .int v2)] []) (kx53 : (Nat → Nat → Int32) → Option ((Nat → Nat → Int32))) (hkx53 : ∀ (s_self : Nat → Nat → Int32), kx53 s_self = some f_self → Gd p l e rm_Md_know s m args below meth c 0 0 (MQ below (sq D classes (tyK K) none [wd_Md K a_self (a_least 0) f_self] A) args s 0 0 A) D classes A 3 53 [wd_Md K a_self (a_least 0) s_self] [(0, .ref (a_self 0)), (1, .int v1)] []) (h : f_Md_know_29 N kb kx53 s_self v1 v2 = some f_self) : Gd p l e rm_Md_know s m args below meth c 0 0 (MQ below (sq D classes (tyK K) none [wd_Md K a_self (a_least 0) f_self] A) args s 0 0 A) D classes A 3 29 [wd_Md K a_self (a_least 0) s_self] [(0, .ref (a_self 0)), (1, .int v1), (2, .int v2)] [] := by
  unfold f_Md_know_29 at h
  refine gd_iload_n X d_Md_know_29 2 rfl ?_
  refine gd_iload_n X d_Md_know_30 1 rfl ?_
  refine gd_iadd X d_Md_know_31 ?_
  refine gd_aload_n X d_Md_know_32 0 rfl ?_
  refine gd_get X (ci := 7) (C := R_Md) (T := F_Md) (N := 36) (v := .int (s_self 0 10)) 0 0 rfl rfl rfl (in_Md _) 10 (by decide) (List.mem_cons_of_mem _ fl_Md_116) rfl rfl d_Md_know_33 ?_
  refine gd_icmp_gt X (tgt := 53) d_Md_know_36 (by decide) (fun c_1 => ?_) (fun c_1 => ?_)
  · replace h := it_p c_1 h
    refine gd_loc (lv' := [(0, .ref (a_self 0)), (1, .int v1)]) [0, 1] rfl ?_
    exact hkx53 s_self h
  · replace h := it_n c_1 h
    refine gd_aload_n X d_Md_know_39 0 rfl ?_
    refine gd_iload_n X d_Md_know_40 2 rfl ?_
    refine gd_iload_n X d_Md_know_41 2 rfl ?_
    refine gd_iload_n X d_Md_know_42 1 rfl ?_
    refine gd_iadd X d_Md_know_43 ?_
    obtain ⟨s_self_2, hc_3, h⟩ := bd1_e h
    refine gd_fv X (w1 := [wd_Md K a_self (a_least 0) s_self_2]) (gd_V X (As := [.int v2, .int (v2 + v1)]) (rest := []) (c_Md_takeStretch l D K a_self a_least N s_self v2 (v2 + v1) s_self_2 hc_3) 2 (gi_V ml_Md_188 u_Md_takeStretch) rfl ⟨rfl, rfl⟩ (by decide +kernel) ⟨by decide, by decide⟩ (ci := 7) rfl rfl rfl rfl rfl rfl (Nat.le_of_ble_eq_true rfl) ⟨Nat.zero_le _, Nat.zero_le _⟩ d_Md_know_44) ?_
    obtain ⟨v2_4, ev2_4, h⟩ := nm_e' h
    refine gd_iinc X (v := v2_4) (lv' := [(2, .int v2_4), (0, .ref (a_self 0)), (1, .int v1)]) d_Md_know_47 (k := 2) rfl (by rw [ev2_4]; rfl) (by decide) rfl ?_
    refine gd_goto X (tgt := 29) d_Md_know_50 (by decide) ?_
    refine gd_loc (lv' := [(0, .ref (a_self 0)), (1, .int v1), (2, .int v2_4)]) [1, 2, 0] rfl ?_
    exact hkb s_self_2 v2_4 h
def f_Md_know_53 (N : Nat) (kb : (Nat → Nat → Int32) → Int32 → Option ((Nat → Nat → Int32))) (kx59 : (Nat → Nat → Int32) → Option ((Nat → Nat → Int32))) (s_self : Nat → Nat → Int32) (v1 : Int32) : Option ((Nat → Nat → Int32)) :=
  nm (v1 + 1) fun v1_1 =>
  kb s_self v1_1
set_option maxHeartbeats 4000000 in
set_option maxRecDepth 100000 in
theorem t_Md_know_53 {p : Program} {l : Launch} {e : Env} {s : State} {m : MethodId} {args : Array Value} {below : List Frame} {meth : Method} {c : Code} {A : Nat → Prop} {D : va_G} {K : Nat → ClassId} (a_self a_least : Nat → Nat) (X : gx p s m args c b_Md_know 3 R_Md w_Md_know D classes (tyK K) A) (hr : meth.sig.returnType = none) (hlk : meth.locks = false) (N : Nat) (f_self : Nat → Nat → Int32) (s_self : Nat → Nat → Int32) (v1 : Int32) (kb : (Nat → Nat → Int32) → Int32 → Option ((Nat → Nat → Int32))) (hkb : ∀ (s_self : Nat → Nat → Int32) (v1 : Int32), kb s_self v1 = some f_self → Gd p l e rm_Md_know s m args below meth c 0 0 (MQ below (sq D classes (tyK K) none [wd_Md K a_self (a_least 0) f_self] A) args s 0 0 A) D classes A 3 19 [wd_Md K a_self (a_least 0) s_self] [(0, .ref (a_self 0)), (1, .int v1)] []) (kx59 : (Nat → Nat → Int32) → Option ((Nat → Nat → Int32))) (hkx59 : ∀ (s_self : Nat → Nat → Int32), kx59 s_self = some f_self → Gd p l e rm_Md_know s m args below meth c 0 0 (MQ below (sq D classes (tyK K) none [wd_Md K a_self (a_least 0) f_self] A) args s 0 0 A) D classes A 3 59 [wd_Md K a_self (a_least 0) s_self] [] []) (h : f_Md_know_53 N kb kx59 s_self v1 = some f_self) : Gd p l e rm_Md_know s m args below meth c 0 0 (MQ below (sq D classes (tyK K) none [wd_Md K a_self (a_least 0) f_self] A) args s 0 0 A) D classes A 3 53 [wd_Md K a_self (a_least 0) s_self] [(0, .ref (a_self 0)), (1, .int v1)] [] := by
  unfold f_Md_know_53 at h
  obtain ⟨v1_1, ev1_1, h⟩ := nm_e' h
  refine gd_iinc X (v := v1_1) (lv' := [(1, .int v1_1), (0, .ref (a_self 0))]) d_Md_know_53 (k := 1) rfl (by rw [ev1_1]; rfl) (by decide) rfl ?_
  refine gd_goto X (tgt := 19) d_Md_know_56 (by decide) ?_
  refine gd_loc (lv' := [(0, .ref (a_self 0)), (1, .int v1_1)]) [1, 0] rfl ?_
  exact hkb s_self v1_1 h
def l_Md_know_29 (N : Nat) (v1 : Int32) (kx53 : (Nat → Nat → Int32) → Option ((Nat → Nat → Int32))) : Nat → (Nat → Nat → Int32) → Int32 → Option ((Nat → Nat → Int32))
  | 0, _, _ => none
  | n + 1, s_self, v2 => f_Md_know_29 N (l_Md_know_29 N v1 kx53 n) kx53 s_self v1 v2
set_option maxHeartbeats 4000000 in
set_option maxRecDepth 100000 in
theorem tl_Md_know_29 {p : Program} {l : Launch} {e : Env} {s : State} {m : MethodId} {args : Array Value} {below : List Frame} {meth : Method} {c : Code} {A : Nat → Prop} {D : va_G} {K : Nat → ClassId} (a_self a_least : Nat → Nat) (X : gx p s m args c b_Md_know 3 R_Md w_Md_know D classes (tyK K) A) (hr : meth.sig.returnType = none) (hlk : meth.locks = false) (N : Nat) (f_self : Nat → Nat → Int32) (v1 : Int32) (kx53 : (Nat → Nat → Int32) → Option ((Nat → Nat → Int32))) (hkx53 : ∀ (s_self : Nat → Nat → Int32), kx53 s_self = some f_self → Gd p l e rm_Md_know s m args below meth c 0 0 (MQ below (sq D classes (tyK K) none [wd_Md K a_self (a_least 0) f_self] A) args s 0 0 A) D classes A 3 53 [wd_Md K a_self (a_least 0) s_self] [(0, .ref (a_self 0)), (1, .int v1)] []) : ∀ (n : Nat) (s_self : Nat → Nat → Int32) (v2 : Int32), l_Md_know_29 N v1 kx53 n s_self v2 = some f_self → Gd p l e rm_Md_know s m args below meth c 0 0 (MQ below (sq D classes (tyK K) none [wd_Md K a_self (a_least 0) f_self] A) args s 0 0 A) D classes A 3 29 [wd_Md K a_self (a_least 0) s_self] [(0, .ref (a_self 0)), (1, .int v1), (2, .int v2)] [] := by
  intro n
  induction n with
  | zero => intro s_self v2 h; have h : (none : Option ((Nat → Nat → Int32))) = some _ := h; cases h
  | succ n ih =>
    intro s_self v2 h
    exact t_Md_know_29 a_self a_least X hr hlk N f_self s_self v1 v2 (l_Md_know_29 N v1 kx53 n) ih kx53 hkx53 h
def f_Md_know_19 (N : Nat) (kb : (Nat → Nat → Int32) → Int32 → Option ((Nat → Nat → Int32))) (kx59 : (Nat → Nat → Int32) → Option ((Nat → Nat → Int32))) (s_self : Nat → Nat → Int32) (v1 : Int32) : Option ((Nat → Nat → Int32)) :=
  if (s_self 0 10) < v1 then
    kx59 s_self
  else
    l_Md_know_29 N v1 (fun s_self => f_Md_know_53 N kb kx59 s_self v1) N s_self 0
set_option maxHeartbeats 4000000 in
set_option maxRecDepth 100000 in
theorem t_Md_know_19 {p : Program} {l : Launch} {e : Env} {s : State} {m : MethodId} {args : Array Value} {below : List Frame} {meth : Method} {c : Code} {A : Nat → Prop} {D : va_G} {K : Nat → ClassId} (a_self a_least : Nat → Nat) (X : gx p s m args c b_Md_know 3 R_Md w_Md_know D classes (tyK K) A) (hr : meth.sig.returnType = none) (hlk : meth.locks = false) (N : Nat) (f_self : Nat → Nat → Int32) (s_self : Nat → Nat → Int32) (v1 : Int32) (kb : (Nat → Nat → Int32) → Int32 → Option ((Nat → Nat → Int32))) (hkb : ∀ (s_self : Nat → Nat → Int32) (v1 : Int32), kb s_self v1 = some f_self → Gd p l e rm_Md_know s m args below meth c 0 0 (MQ below (sq D classes (tyK K) none [wd_Md K a_self (a_least 0) f_self] A) args s 0 0 A) D classes A 3 19 [wd_Md K a_self (a_least 0) s_self] [(0, .ref (a_self 0)), (1, .int v1)] []) (kx59 : (Nat → Nat → Int32) → Option ((Nat → Nat → Int32))) (hkx59 : ∀ (s_self : Nat → Nat → Int32), kx59 s_self = some f_self → Gd p l e rm_Md_know s m args below meth c 0 0 (MQ below (sq D classes (tyK K) none [wd_Md K a_self (a_least 0) f_self] A) args s 0 0 A) D classes A 3 59 [wd_Md K a_self (a_least 0) s_self] [] []) (h : f_Md_know_19 N kb kx59 s_self v1 = some f_self) : Gd p l e rm_Md_know s m args below meth c 0 0 (MQ below (sq D classes (tyK K) none [wd_Md K a_self (a_least 0) f_self] A) args s 0 0 A) D classes A 3 19 [wd_Md K a_self (a_least 0) s_self] [(0, .ref (a_self 0)), (1, .int v1)] [] := by
  unfold f_Md_know_19 at h
  refine gd_iload_n X d_Md_know_19 1 rfl ?_
  refine gd_aload_n X d_Md_know_20 0 rfl ?_
  refine gd_get X (ci := 7) (C := R_Md) (T := F_Md) (N := 36) (v := .int (s_self 0 10)) 0 0 rfl rfl rfl (in_Md _) 10 (by decide) (List.mem_cons_of_mem _ fl_Md_116) rfl rfl d_Md_know_21 ?_
  refine gd_icmp_gt X (tgt := 59) d_Md_know_24 (by decide) (fun c_1 => ?_) (fun c_1 => ?_)
  · replace h := it_p c_1 h
    refine gd_loc (lv' := []) [] rfl ?_
    exact hkx59 s_self h
  · replace h := it_n c_1 h
    refine gd_iconst X (v := 0) d_Md_know_27 (by decide) ?_
    refine gd_istore_n X (lv' := [(2, .int 0), (0, .ref (a_self 0)), (1, .int v1)]) d_Md_know_28 rfl (by decide) rfl ?_
    refine gd_loc (lv' := [(0, .ref (a_self 0)), (1, .int v1), (2, .int 0)]) [1, 2, 0] rfl ?_
    exact tl_Md_know_29 a_self a_least X hr hlk N f_self v1 (fun s_self => f_Md_know_53 N kb kx59 s_self v1) (fun s_self h => t_Md_know_53 a_self a_least X hr hlk N f_self s_self v1 kb hkb kx59 hkx59 h) N s_self 0 h
def f_Md_know_59 (N : Nat) (s_self : Nat → Nat → Int32) : Option ((Nat → Nat → Int32)) :=
  some s_self
set_option maxHeartbeats 4000000 in
set_option maxRecDepth 100000 in
theorem t_Md_know_59 {p : Program} {l : Launch} {e : Env} {s : State} {m : MethodId} {args : Array Value} {below : List Frame} {meth : Method} {c : Code} {A : Nat → Prop} {D : va_G} {K : Nat → ClassId} (a_self a_least : Nat → Nat) (X : gx p s m args c b_Md_know 3 R_Md w_Md_know D classes (tyK K) A) (hr : meth.sig.returnType = none) (hlk : meth.locks = false) (N : Nat) (f_self : Nat → Nat → Int32) (s_self : Nat → Nat → Int32) (h : f_Md_know_59 N s_self = some f_self) : Gd p l e rm_Md_know s m args below meth c 0 0 (MQ below (sq D classes (tyK K) none [wd_Md K a_self (a_least 0) f_self] A) args s 0 0 A) D classes A 3 59 [wd_Md K a_self (a_least 0) s_self] [] [] := by
  unfold f_Md_know_59 at h
  cases h
  exact gd_vret X hr hlk d_Md_know_59
def l_Md_know_19 (N : Nat) (kx59 : (Nat → Nat → Int32) → Option ((Nat → Nat → Int32))) : Nat → (Nat → Nat → Int32) → Int32 → Option ((Nat → Nat → Int32))
  | 0, _, _ => none
  | n + 1, s_self, v1 => f_Md_know_19 N (l_Md_know_19 N kx59 n) kx59 s_self v1
set_option maxHeartbeats 4000000 in
set_option maxRecDepth 100000 in
theorem tl_Md_know_19 {p : Program} {l : Launch} {e : Env} {s : State} {m : MethodId} {args : Array Value} {below : List Frame} {meth : Method} {c : Code} {A : Nat → Prop} {D : va_G} {K : Nat → ClassId} (a_self a_least : Nat → Nat) (X : gx p s m args c b_Md_know 3 R_Md w_Md_know D classes (tyK K) A) (hr : meth.sig.returnType = none) (hlk : meth.locks = false) (N : Nat) (f_self : Nat → Nat → Int32) (kx59 : (Nat → Nat → Int32) → Option ((Nat → Nat → Int32))) (hkx59 : ∀ (s_self : Nat → Nat → Int32), kx59 s_self = some f_self → Gd p l e rm_Md_know s m args below meth c 0 0 (MQ below (sq D classes (tyK K) none [wd_Md K a_self (a_least 0) f_self] A) args s 0 0 A) D classes A 3 59 [wd_Md K a_self (a_least 0) s_self] [] []) : ∀ (n : Nat) (s_self : Nat → Nat → Int32) (v1 : Int32), l_Md_know_19 N kx59 n s_self v1 = some f_self → Gd p l e rm_Md_know s m args below meth c 0 0 (MQ below (sq D classes (tyK K) none [wd_Md K a_self (a_least 0) f_self] A) args s 0 0 A) D classes A 3 19 [wd_Md K a_self (a_least 0) s_self] [(0, .ref (a_self 0)), (1, .int v1)] [] := by
  intro n
  induction n with
  | zero => intro s_self v1 h; have h : (none : Option ((Nat → Nat → Int32))) = some _ := h; cases h
  | succ n ih =>
    intro s_self v1 h
    exact t_Md_know_19 a_self a_least X hr hlk N f_self s_self v1 (l_Md_know_19 N kx59 n) ih kx59 hkx59 h
def f_Md_know_0 (N : Nat) (s_self : Nat → Nat → Int32) : Option ((Nat → Nat → Int32)) :=
  if (s_self 0 14) = 0 then
    nm (st2 s_self 0 14 1) fun s_self_2 =>
    bd1 (m_Md_findComes N s_self_2) fun s_self_3 =>
    l_Md_know_19 N (fun s_self => f_Md_know_59 N s_self) N s_self_3 1
  else
    some s_self
set_option maxHeartbeats 4000000 in
set_option maxRecDepth 100000 in
theorem t_Md_know_0 {p : Program} {l : Launch} {e : Env} {s : State} {m : MethodId} {args : Array Value} {below : List Frame} {meth : Method} {c : Code} {A : Nat → Prop} {D : va_G} {K : Nat → ClassId} (a_self a_least : Nat → Nat) (X : gx p s m args c b_Md_know 3 R_Md w_Md_know D classes (tyK K) A) (hr : meth.sig.returnType = none) (hlk : meth.locks = false) (N : Nat) (f_self : Nat → Nat → Int32) (s_self : Nat → Nat → Int32) (h : f_Md_know_0 N s_self = some f_self) : Gd p l e rm_Md_know s m args below meth c 0 0 (MQ below (sq D classes (tyK K) none [wd_Md K a_self (a_least 0) f_self] A) args s 0 0 A) D classes A 3 0 [wd_Md K a_self (a_least 0) s_self] [(0, .ref (a_self 0))] [] := by
  unfold f_Md_know_0 at h
  refine gd_aload_n X d_Md_know_0 0 rfl ?_
  refine gd_get X (ci := 7) (C := R_Md) (T := F_Md) (N := 36) (v := .int (s_self 0 14)) 0 0 rfl rfl rfl (in_Md _) 14 (by decide) (List.mem_cons_of_mem _ fl_Md_95) rfl rfl d_Md_know_1 ?_
  refine gd_if_eq X (tgt := 8) d_Md_know_4 (by decide) (fun c_1 => ?_) (fun c_1 => ?_)
  · replace h := it_p c_1 h
    refine gd_aload_n X d_Md_know_8 0 rfl ?_
    refine gd_iconst X (v := 1) d_Md_know_9 (by decide) ?_
    obtain ⟨s_self_2, es_self_2, h⟩ := nm_e' h
    refine gd_put X (ci := 7) (C := R_Md) (T := F_Md) (N := 36) (ty := .boolean) (w' := [wd_Md K a_self (a_least 0) s_self_2]) 0 0 rfl rfl rfl (in_Md _) t_Md t_Md_ok n_Md 14 (by decide) (List.mem_cons_of_mem _ fl_Md_95) rfl rfl (by decide +kernel) (by decide) (by decide) (Nat.le_of_ble_eq_true rfl) d_Md_know_10 (by rw [es_self_2]; rfl) ?_
    refine gd_aload_n X d_Md_know_13 0 rfl ?_
    obtain ⟨s_self_3, hc_4, h⟩ := bd1_e h
    refine gd_fv X (w1 := [wd_Md K a_self (a_least 0) s_self_3]) (gd_V X (As := []) (rest := []) (c_Md_findComes l D K a_self a_least N s_self_2 s_self_3 hc_4) 0 (gi_V ml_Md_185 u_Md_findComes) rfl ⟨rfl, rfl⟩ (by decide +kernel) ⟨by decide, by decide⟩ (ci := 7) rfl rfl rfl rfl rfl rfl (Nat.le_of_ble_eq_true rfl) ⟨Nat.zero_le _, Nat.zero_le _⟩ d_Md_know_14) ?_
    refine gd_iconst X (v := 1) d_Md_know_17 (by decide) ?_
    refine gd_istore_n X (lv' := [(1, .int 1), (0, .ref (a_self 0))]) d_Md_know_18 rfl (by decide) rfl ?_
    refine gd_loc (lv' := [(0, .ref (a_self 0)), (1, .int 1)]) [1, 0] rfl ?_
    exact tl_Md_know_19 a_self a_least X hr hlk N f_self (fun s_self => f_Md_know_59 N s_self) (fun s_self h => t_Md_know_59 a_self a_least X hr hlk N f_self s_self h) N s_self_3 1 h
  · replace h := it_n c_1 h
    cases h
    exact gd_vret X hr hlk d_Md_know_7
def m_Md_know (N : Nat) (s_self : Nat → Nat → Int32) : Option ((Nat → Nat → Int32)) := f_Md_know_0 N s_self
set_option maxHeartbeats 4000000 in
set_option maxRecDepth 100000 in
theorem c_Md_know (l : Launch) (D : va_G) (K : Nat → ClassId) (a_self a_least : Nat → Nat) (N : Nat) (s_self : Nat → Nat → Int32) (f_self : Nat → Nat → Int32) (h : m_Md_know N s_self = some f_self) : SMet l y_Md_know w_Md_know rm_Md_know D classes (tyK K) [.ref (a_self 0)] none [wd_Md K a_self (a_least 0) s_self] [wd_Md K a_self (a_least 0) f_self] := by
  refine sm_of R_Md (by decide) rfl rfl (Nat.le_of_ble_eq_true rfl) ?_
  intro p e s m below meth c A X hr hlk
  refine gd_loc (lv' := [(0, .ref (a_self 0))]) [0] rfl ?_
  exact t_Md_know_0 a_self a_least X hr hlk N f_self s_self h
abbrev b_Md_trees : ByteArray := prog_10_method_32_code
def y_Md_trees : MethodName := ⟨R_Md, "trees", "(III)I"⟩
def w_Md_trees : List Cond := .code y_Md_trees b_Md_trees 5 (some .int) :: TB
theorem k_Md_trees : Cond.code y_Md_trees b_Md_trees 5 (some .int) ∈ TB := tb_of 874 (by decide +kernel) (by decide +kernel)
theorem d_Md_trees_0 : decode b_Md_trees 0 = .ok (.aload_n 0, 1) := by decide +kernel
theorem d_Md_trees_1 : decode b_Md_trees 1 = .ok (.iconst 0, 1) := by decide +kernel
theorem d_Md_trees_2 : decode b_Md_trees 2 = .ok (.putfield 86, 3) := by decide +kernel
theorem d_Md_trees_5 : decode b_Md_trees 5 = .ok (.aload_n 0, 1) := by decide +kernel
theorem d_Md_trees_6 : decode b_Md_trees 6 = .ok (.iload_n 1, 1) := by decide +kernel
theorem d_Md_trees_7 : decode b_Md_trees 7 = .ok (.invokevirtual 99, 3) := by decide +kernel
theorem d_Md_trees_10 : decode b_Md_trees 10 = .ok (.ifCond .eq 20, 3) := by decide +kernel
theorem d_Md_trees_13 : decode b_Md_trees 13 = .ok (.iload_n 2, 1) := by decide +kernel
theorem d_Md_trees_14 : decode b_Md_trees 14 = .ok (.ifCond .lt 16, 3) := by decide +kernel
theorem d_Md_trees_17 : decode b_Md_trees 17 = .ok (.iload_n 3, 1) := by decide +kernel
theorem d_Md_trees_18 : decode b_Md_trees 18 = .ok (.iload_n 2, 1) := by decide +kernel
theorem d_Md_trees_19 : decode b_Md_trees 19 = .ok (.if_icmp .le 11, 3) := by decide +kernel
theorem d_Md_trees_22 : decode b_Md_trees 22 = .ok (.iload_n 3, 1) := by decide +kernel
theorem d_Md_trees_23 : decode b_Md_trees 23 = .ok (.aload_n 0, 1) := by decide +kernel
theorem d_Md_trees_24 : decode b_Md_trees 24 = .ok (.getfield 116, 3) := by decide +kernel
theorem d_Md_trees_27 : decode b_Md_trees 27 = .ok (.if_icmp .le 5, 3) := by decide +kernel
theorem d_Md_trees_30 : decode b_Md_trees 30 = .ok (.iconst (-1), 1) := by decide +kernel
theorem d_Md_trees_31 : decode b_Md_trees 31 = .ok (.ireturn, 1) := by decide +kernel
theorem d_Md_trees_32 : decode b_Md_trees 32 = .ok (.aload_n 0, 1) := by decide +kernel
theorem d_Md_trees_33 : decode b_Md_trees 33 = .ok (.invokevirtual 192, 3) := by decide +kernel
theorem d_Md_trees_36 : decode b_Md_trees 36 = .ok (.aload_n 0, 1) := by decide +kernel
theorem d_Md_trees_37 : decode b_Md_trees 37 = .ok (.getfield 32, 3) := by decide +kernel
theorem d_Md_trees_40 : decode b_Md_trees 40 = .ok (.iload_n 1, 1) := by decide +kernel
theorem d_Md_trees_41 : decode b_Md_trees 41 = .ok (.iload_n 2, 1) := by decide +kernel
theorem d_Md_trees_42 : decode b_Md_trees 42 = .ok (.iload_n 3, 1) := by decide +kernel
theorem d_Md_trees_43 : decode b_Md_trees 43 = .ok (.invokestatic 138, 3) := by decide +kernel
theorem d_Md_trees_46 : decode b_Md_trees 46 = .ok (.iaload, 1) := by decide +kernel
theorem d_Md_trees_47 : decode b_Md_trees 47 = .ok (.istore 4, 2) := by decide +kernel
theorem d_Md_trees_49 : decode b_Md_trees 49 = .ok (.iload 4, 2) := by decide +kernel
theorem d_Md_trees_51 : decode b_Md_trees 51 = .ok (.ldc 132, 2) := by decide +kernel
theorem d_Md_trees_53 : decode b_Md_trees 53 = .ok (.if_icmp .ne 8, 3) := by decide +kernel
theorem d_Md_trees_56 : decode b_Md_trees 56 = .ok (.bipush (-2), 2) := by decide +kernel
theorem d_Md_trees_58 : decode b_Md_trees 58 = .ok (.goto 5, 3) := by decide +kernel
theorem d_Md_trees_61 : decode b_Md_trees 61 = .ok (.iload 4, 2) := by decide +kernel
theorem d_Md_trees_63 : decode b_Md_trees 63 = .ok (.ireturn, 1) := by decide +kernel
theorem ml_Md_192 : Cond.methodLink R_Md 192 ⟨"RuleTreesModel", "know", "()V"⟩ ∈ TB := tb_of 875 (by decide +kernel) (by decide +kernel)
theorem u_Md_know : (Cond.instanceMethod y_Md_know ∈ TB ∧ Cond.selects R_Md y_Md_know y_Md_know ∈ TB) ∧ Cond.initialized R_Md ∈ TB ∧ Cond.code y_Md_know b_Md_know 3 none ∈ TB := ⟨⟨(tb_of 877 (by decide +kernel) (by decide +kernel)), (tb_of 38 (by decide +kernel) (by decide +kernel))⟩, (tb_of 70 (by decide +kernel) (by decide +kernel)), k_Md_know⟩
abbrev rm_Md_trees : Room := { frames := 6, cells := 0, slots := 0, locals := 152 }
def f_Md_trees_0 (N : Nat) (s_self : Nat → Nat → Int32) (v1 v2 v3 : Int32) : Option ((Int32) × (Nat → Nat → Int32)) :=
  nm (st2 s_self 0 0 0) fun s_self_1 =>
  bd1 (m_Md_isSort s_self_1 v1) fun r_2 =>
  if r_2 = 0 then
    some (((-1)), s_self_1)
  else
    if v2 < 0 then
      some (((-1)), s_self_1)
    else
      if v3 ≤ v2 then
        some (((-1)), s_self_1)
      else
        if v3 ≤ (s_self_1 0 10) then
          bd1 (m_Md_know N s_self_1) fun s_self_8 =>
          bd1 (m_Md_cellOf v1 v2 v3) fun r_10 =>
          ck r_10 936 <|
          nm (s_self_8 7 (Int32.toNatClampNeg r_10)) fun v4_13 =>
          if v4_13 = 1000001 then
            some (((-2)), s_self_8)
          else
            some ((v4_13), s_self_8)
        else
          some (((-1)), s_self_1)
set_option maxHeartbeats 4000000 in
set_option maxRecDepth 100000 in
theorem t_Md_trees_0 {p : Program} {l : Launch} {e : Env} {s : State} {m : MethodId} {args : Array Value} {below : List Frame} {meth : Method} {c : Code} {A : Nat → Prop} {D : va_G} {K : Nat → ClassId} (a_self a_least : Nat → Nat) (X : gx p s m args c b_Md_trees 5 R_Md w_Md_trees D classes (tyK K) A) (hr : meth.sig.returnType = some .int) (hlk : meth.locks = false) (N : Nat) (r : Int32) (f_self : Nat → Nat → Int32) (s_self : Nat → Nat → Int32) (v1 v2 v3 : Int32) (h : f_Md_trees_0 N s_self v1 v2 v3 = some (r, f_self)) : Gd p l e rm_Md_trees s m args below meth c 0 0 (MQ below (sq D classes (tyK K) (some (.int r)) [wd_Md K a_self (a_least 0) f_self] A) args s 0 0 A) D classes A 5 0 [wd_Md K a_self (a_least 0) s_self] [(0, .ref (a_self 0)), (1, .int v1), (2, .int v2), (3, .int v3)] [] := by
  unfold f_Md_trees_0 at h
  refine gd_aload_n X d_Md_trees_0 0 rfl ?_
  refine gd_iconst X (v := 0) d_Md_trees_1 (by decide) ?_
  obtain ⟨s_self_1, es_self_1, h⟩ := nm_e' h
  refine gd_put X (ci := 7) (C := R_Md) (T := F_Md) (N := 36) (ty := .int) (w' := [wd_Md K a_self (a_least 0) s_self_1]) 0 0 rfl rfl rfl (in_Md _) t_Md t_Md_ok n_Md 0 (by decide) (List.mem_cons_of_mem _ fl_Md_86) rfl rfl (by decide +kernel) rfl rfl (Nat.le_of_ble_eq_true rfl) d_Md_trees_2 (by rw [es_self_1]; rfl) ?_
  refine gd_aload_n X d_Md_trees_5 0 rfl ?_
  refine gd_iload_n X d_Md_trees_6 1 rfl ?_
  obtain ⟨r_2, hc_3, h⟩ := bd1_e h
  refine gd_fI X (gd_V X (As := [.int v1]) (rest := []) (c_Md_isSort l D K a_self a_least s_self_1 v1 r_2 hc_3) 1 (gi_V ml_Md_99 u_Md_isSort) rfl ⟨rfl, rfl⟩ (by decide +kernel) ⟨by decide, by decide⟩ (ci := 7) rfl rfl rfl rfl rfl rfl (Nat.le_of_ble_eq_true rfl) ⟨Nat.zero_le _, Nat.zero_le _⟩ d_Md_trees_7) ?_
  refine gd_if_eq X (tgt := 30) d_Md_trees_10 (by decide) (fun c_4 => ?_) (fun c_4 => ?_)
  · replace h := it_p c_4 h
    refine gd_iconst X (v := (-1)) d_Md_trees_30 (by decide) ?_
    cases h
    exact gd_iret X hr hlk d_Md_trees_31
  · replace h := it_n c_4 h
    refine gd_iload_n X d_Md_trees_13 2 rfl ?_
    refine gd_if_lt X (tgt := 30) d_Md_trees_14 (by decide) (fun c_5 => ?_) (fun c_5 => ?_)
    · replace h := it_p c_5 h
      refine gd_iconst X (v := (-1)) d_Md_trees_30 (by decide) ?_
      cases h
      exact gd_iret X hr hlk d_Md_trees_31
    · replace h := it_n c_5 h
      refine gd_iload_n X d_Md_trees_17 3 rfl ?_
      refine gd_iload_n X d_Md_trees_18 2 rfl ?_
      refine gd_icmp_le X (tgt := 30) d_Md_trees_19 (by decide) (fun c_6 => ?_) (fun c_6 => ?_)
      · replace h := it_p c_6 h
        refine gd_iconst X (v := (-1)) d_Md_trees_30 (by decide) ?_
        cases h
        exact gd_iret X hr hlk d_Md_trees_31
      · replace h := it_n c_6 h
        refine gd_iload_n X d_Md_trees_22 3 rfl ?_
        refine gd_aload_n X d_Md_trees_23 0 rfl ?_
        refine gd_get X (ci := 7) (C := R_Md) (T := F_Md) (N := 36) (v := .int (s_self_1 0 10)) 0 0 rfl rfl rfl (in_Md _) 10 (by decide) (List.mem_cons_of_mem _ fl_Md_116) rfl rfl d_Md_trees_24 ?_
        refine gd_icmp_le X (tgt := 32) d_Md_trees_27 (by decide) (fun c_7 => ?_) (fun c_7 => ?_)
        · replace h := it_p c_7 h
          refine gd_aload_n X d_Md_trees_32 0 rfl ?_
          obtain ⟨s_self_8, hc_9, h⟩ := bd1_e h
          refine gd_fv X (w1 := [wd_Md K a_self (a_least 0) s_self_8]) (gd_V X (As := []) (rest := []) (c_Md_know l D K a_self a_least N s_self_1 s_self_8 hc_9) 0 (gi_V ml_Md_192 u_Md_know) rfl ⟨rfl, rfl⟩ (by decide +kernel) ⟨by decide, by decide⟩ (ci := 7) rfl rfl rfl rfl rfl rfl (Nat.le_of_ble_eq_true rfl) ⟨Nat.zero_le _, Nat.zero_le _⟩ d_Md_trees_33) ?_
          refine gd_aload_n X d_Md_trees_36 0 rfl ?_
          refine gd_get X (ci := 7) (C := R_Md) (T := F_Md) (N := 36) (v := .ref (a_self 7)) 0 0 rfl rfl rfl (in_Md _) 15 (by decide) (List.mem_cons_of_mem _ fl_Md_32) rfl rfl d_Md_trees_37 ?_
          refine gd_iload_n X d_Md_trees_40 1 rfl ?_
          refine gd_iload_n X d_Md_trees_41 2 rfl ?_
          refine gd_iload_n X d_Md_trees_42 3 rfl ?_
          obtain ⟨r_10, hc_11, h⟩ := bd1_e h
          refine gd_pI X (gd_Sc X (As := [.int v1, .int v2, .int v3]) (rest := [.ref (a_self 7)]) (c_Md_cellOf l D K v1 v2 v3 r_10 hc_11) 3 (gi_S ml_Md_138 u_Md_cellOf) rfl ⟨rfl, rfl⟩ (by decide +kernel) ⟨by decide, by decide⟩ rfl rfl (Nat.le_of_ble_eq_true rfl) ⟨Nat.zero_le _, Nat.zero_le _⟩ d_Md_trees_43) [] rfl rfl ?_
          obtain ⟨hi_12, h⟩ := ck_e h
          refine gd_iald X 0 7 0 rfl rfl rfl hi_12 d_Md_trees_46 ?_
          obtain ⟨v4_13, ev4_13, h⟩ := nm_e' h
          refine gd_topi ev4_13 ?_
          refine gd_istore X (lv' := [(4, .int v4_13), (0, .ref (a_self 0)), (1, .int v1), (2, .int v2), (3, .int v3)]) d_Md_trees_47 (by decide) rfl ?_
          refine gd_iload X d_Md_trees_49 0 rfl ?_
          refine gd_ldc X (v := 1000001) (List.mem_cons_of_mem _ kc_Md_132) d_Md_trees_51 ?_
          refine gd_icmp_ne X (tgt := 61) d_Md_trees_53 (by decide) (fun c_14 => ?_) (fun c_14 => ?_)
          · replace h := it_n c_14 h
            refine gd_iload X d_Md_trees_61 0 rfl ?_
            cases h
            exact gd_iret X hr hlk d_Md_trees_63
          · replace h := it_p c_14 h
            refine gd_bipush X (v := (-2)) d_Md_trees_56 (by decide) ?_
            refine gd_goto X (tgt := 63) d_Md_trees_58 (by decide) ?_
            cases h
            exact gd_iret X hr hlk d_Md_trees_63
        · replace h := it_n c_7 h
          refine gd_iconst X (v := (-1)) d_Md_trees_30 (by decide) ?_
          cases h
          exact gd_iret X hr hlk d_Md_trees_31
def m_Md_trees (N : Nat) (s_self : Nat → Nat → Int32) (v1 v2 v3 : Int32) : Option ((Int32) × (Nat → Nat → Int32)) := f_Md_trees_0 N s_self v1 v2 v3
set_option maxHeartbeats 4000000 in
set_option maxRecDepth 100000 in
theorem c_Md_trees (l : Launch) (D : va_G) (K : Nat → ClassId) (a_self a_least : Nat → Nat) (N : Nat) (s_self : Nat → Nat → Int32) (v1 v2 v3 : Int32) (r : Int32) (f_self : Nat → Nat → Int32) (h : m_Md_trees N s_self v1 v2 v3 = some (r, f_self)) : SMet l y_Md_trees w_Md_trees rm_Md_trees D classes (tyK K) [.ref (a_self 0), .int v1, .int v2, .int v3] (some (.int r)) [wd_Md K a_self (a_least 0) s_self] [wd_Md K a_self (a_least 0) f_self] := by
  refine sm_of R_Md (by decide) rfl rfl (Nat.le_of_ble_eq_true rfl) ?_
  intro p e s m below meth c A X hr hlk
  refine gd_loc (lv' := [(0, .ref (a_self 0)), (1, .int v1), (2, .int v2), (3, .int v3)]) [0, 1, 2, 3] rfl ?_
  exact t_Md_trees_0 a_self a_least X hr hlk N r f_self s_self v1 v2 v3 h
abbrev b_Md_treeOf : ByteArray := prog_10_method_33_code
def y_Md_treeOf : MethodName := ⟨R_Md, "treeOf", "(II)I"⟩
def w_Md_treeOf : List Cond := .code y_Md_treeOf b_Md_treeOf 4 (some .int) :: TB
theorem k_Md_treeOf : Cond.code y_Md_treeOf b_Md_treeOf 4 (some .int) ∈ TB := tb_of 957 (by decide +kernel) (by decide +kernel)
theorem d_Md_treeOf_0 : decode b_Md_treeOf 0 = .ok (.aload_n 0, 1) := by decide +kernel
theorem d_Md_treeOf_1 : decode b_Md_treeOf 1 = .ok (.iload_n 1, 1) := by decide +kernel
theorem d_Md_treeOf_2 : decode b_Md_treeOf 2 = .ok (.invokevirtual 99, 3) := by decide +kernel
theorem d_Md_treeOf_5 : decode b_Md_treeOf 5 = .ok (.ifCond .eq 23, 3) := by decide +kernel
theorem d_Md_treeOf_8 : decode b_Md_treeOf 8 = .ok (.iload_n 2, 1) := by decide +kernel
theorem d_Md_treeOf_9 : decode b_Md_treeOf 9 = .ok (.ifCond .lt 19, 3) := by decide +kernel
theorem d_Md_treeOf_12 : decode b_Md_treeOf 12 = .ok (.iload_n 2, 1) := by decide +kernel
theorem d_Md_treeOf_13 : decode b_Md_treeOf 13 = .ok (.iconst 1, 1) := by decide +kernel
theorem d_Md_treeOf_14 : decode b_Md_treeOf 14 = .ok (.if_icmp .gt 14, 3) := by decide +kernel
theorem d_Md_treeOf_17 : decode b_Md_treeOf 17 = .ok (.aload_n 0, 1) := by decide +kernel
theorem d_Md_treeOf_18 : decode b_Md_treeOf 18 = .ok (.getfield 116, 3) := by decide +kernel
theorem d_Md_treeOf_21 : decode b_Md_treeOf 21 = .ok (.ifCond .le 7, 3) := by decide +kernel
theorem d_Md_treeOf_24 : decode b_Md_treeOf 24 = .ok (.iconst 1, 1) := by decide +kernel
theorem d_Md_treeOf_25 : decode b_Md_treeOf 25 = .ok (.goto 4, 3) := by decide +kernel
theorem d_Md_treeOf_28 : decode b_Md_treeOf 28 = .ok (.iconst 0, 1) := by decide +kernel
theorem d_Md_treeOf_29 : decode b_Md_treeOf 29 = .ok (.istore_n 3, 1) := by decide +kernel
theorem d_Md_treeOf_30 : decode b_Md_treeOf 30 = .ok (.iload_n 3, 1) := by decide +kernel
theorem d_Md_treeOf_31 : decode b_Md_treeOf 31 = .ok (.ifCond .eq 19, 3) := by decide +kernel
theorem d_Md_treeOf_34 : decode b_Md_treeOf 34 = .ok (.iconst 2, 1) := by decide +kernel
theorem d_Md_treeOf_35 : decode b_Md_treeOf 35 = .ok (.iload_n 1, 1) := by decide +kernel
theorem d_Md_treeOf_36 : decode b_Md_treeOf 36 = .ok (.iconst 0, 1) := by decide +kernel
theorem d_Md_treeOf_37 : decode b_Md_treeOf 37 = .ok (.aload_n 0, 1) := by decide +kernel
theorem d_Md_treeOf_38 : decode b_Md_treeOf 38 = .ok (.getfield 116, 3) := by decide +kernel
theorem d_Md_treeOf_41 : decode b_Md_treeOf 41 = .ok (.invokestatic 138, 3) := by decide +kernel
theorem d_Md_treeOf_44 : decode b_Md_treeOf 44 = .ok (.imul, 1) := by decide +kernel
theorem d_Md_treeOf_45 : decode b_Md_treeOf 45 = .ok (.iload_n 2, 1) := by decide +kernel
theorem d_Md_treeOf_46 : decode b_Md_treeOf 46 = .ok (.iadd, 1) := by decide +kernel
theorem d_Md_treeOf_47 : decode b_Md_treeOf 47 = .ok (.goto 4, 3) := by decide +kernel
theorem d_Md_treeOf_50 : decode b_Md_treeOf 50 = .ok (.iconst (-1), 1) := by decide +kernel
theorem d_Md_treeOf_51 : decode b_Md_treeOf 51 = .ok (.ireturn, 1) := by decide +kernel
abbrev rm_Md_treeOf : Room := { frames := 1, cells := 0, slots := 0, locals := 22 }
def f_Md_treeOf_29 (s_self : Nat → Nat → Int32) (v1 v2 : Int32) (k0 : Int32) : Option ((Int32)) :=
  if k0 = 0 then
    some ((-1))
  else
    bd1 (m_Md_cellOf v1 0 (s_self 0 10)) fun r_2 =>
    some ((2 * r_2) + v2)
set_option maxHeartbeats 4000000 in
set_option maxRecDepth 100000 in
theorem t_Md_treeOf_29 {p : Program} {l : Launch} {e : Env} {s : State} {m : MethodId} {args : Array Value} {below : List Frame} {meth : Method} {c : Code} {A : Nat → Prop} {D : va_G} {K : Nat → ClassId} (a_self a_least : Nat → Nat) (X : gx p s m args c b_Md_treeOf 4 R_Md w_Md_treeOf D classes (tyK K) A) (hr : meth.sig.returnType = some .int) (hlk : meth.locks = false) (r : Int32) (s_self : Nat → Nat → Int32) (v1 v2 : Int32) (k0 : Int32) (h : f_Md_treeOf_29 s_self v1 v2 k0 = some r) : Gd p l e rm_Md_treeOf s m args below meth c 0 0 (MQ below (sq D classes (tyK K) (some (.int r)) [wd_Md K a_self (a_least 0) s_self] A) args s 0 0 A) D classes A 4 29 [wd_Md K a_self (a_least 0) s_self] [(0, .ref (a_self 0)), (1, .int v1), (2, .int v2)] [.int k0] := by
  unfold f_Md_treeOf_29 at h
  refine gd_istore_n X (lv' := [(3, .int k0), (0, .ref (a_self 0)), (1, .int v1), (2, .int v2)]) d_Md_treeOf_29 rfl (by decide) rfl ?_
  refine gd_iload_n X d_Md_treeOf_30 0 rfl ?_
  refine gd_if_eq X (tgt := 50) d_Md_treeOf_31 (by decide) (fun c_1 => ?_) (fun c_1 => ?_)
  · replace h := it_p c_1 h
    refine gd_iconst X (v := (-1)) d_Md_treeOf_50 (by decide) ?_
    cases h
    exact gd_iret X hr hlk d_Md_treeOf_51
  · replace h := it_n c_1 h
    refine gd_iconst X (v := 2) d_Md_treeOf_34 (by decide) ?_
    refine gd_iload_n X d_Md_treeOf_35 2 rfl ?_
    refine gd_iconst X (v := 0) d_Md_treeOf_36 (by decide) ?_
    refine gd_aload_n X d_Md_treeOf_37 1 rfl ?_
    refine gd_get X (ci := 7) (C := R_Md) (T := F_Md) (N := 36) (v := .int (s_self 0 10)) 0 0 rfl rfl rfl (in_Md _) 10 (by decide) (List.mem_cons_of_mem _ fl_Md_116) rfl rfl d_Md_treeOf_38 ?_
    obtain ⟨r_2, hc_3, h⟩ := bd1_e h
    refine gd_pI X (gd_Sc X (As := [.int v1, .int 0, .int (s_self 0 10)]) (rest := [.int 2]) (c_Md_cellOf l D K v1 0 (s_self 0 10) r_2 hc_3) 3 (gi_S ml_Md_138 u_Md_cellOf) rfl ⟨rfl, rfl⟩ (by decide +kernel) ⟨by decide, by decide⟩ rfl rfl (Nat.le_of_ble_eq_true rfl) ⟨Nat.zero_le _, Nat.zero_le _⟩ d_Md_treeOf_41) [] rfl rfl ?_
    refine gd_imul X d_Md_treeOf_44 ?_
    refine gd_iload_n X d_Md_treeOf_45 3 rfl ?_
    refine gd_iadd X d_Md_treeOf_46 ?_
    refine gd_goto X (tgt := 51) d_Md_treeOf_47 (by decide) ?_
    cases h
    exact gd_iret X hr hlk d_Md_treeOf_51
def f_Md_treeOf_0 (s_self : Nat → Nat → Int32) (v1 v2 : Int32) : Option ((Int32)) :=
  bd1 (m_Md_isSort s_self v1) fun r_1 =>
  if r_1 = 0 then
    f_Md_treeOf_29 s_self v1 v2 0
  else
    if v2 < 0 then
      f_Md_treeOf_29 s_self v1 v2 0
    else
      if 1 < v2 then
        f_Md_treeOf_29 s_self v1 v2 0
      else
        if (s_self 0 10) ≤ 0 then
          f_Md_treeOf_29 s_self v1 v2 0
        else
          f_Md_treeOf_29 s_self v1 v2 1
set_option maxHeartbeats 4000000 in
set_option maxRecDepth 100000 in
theorem t_Md_treeOf_0 {p : Program} {l : Launch} {e : Env} {s : State} {m : MethodId} {args : Array Value} {below : List Frame} {meth : Method} {c : Code} {A : Nat → Prop} {D : va_G} {K : Nat → ClassId} (a_self a_least : Nat → Nat) (X : gx p s m args c b_Md_treeOf 4 R_Md w_Md_treeOf D classes (tyK K) A) (hr : meth.sig.returnType = some .int) (hlk : meth.locks = false) (r : Int32) (s_self : Nat → Nat → Int32) (v1 v2 : Int32) (h : f_Md_treeOf_0 s_self v1 v2 = some r) : Gd p l e rm_Md_treeOf s m args below meth c 0 0 (MQ below (sq D classes (tyK K) (some (.int r)) [wd_Md K a_self (a_least 0) s_self] A) args s 0 0 A) D classes A 4 0 [wd_Md K a_self (a_least 0) s_self] [(0, .ref (a_self 0)), (1, .int v1), (2, .int v2)] [] := by
  unfold f_Md_treeOf_0 at h
  refine gd_aload_n X d_Md_treeOf_0 0 rfl ?_
  refine gd_iload_n X d_Md_treeOf_1 1 rfl ?_
  obtain ⟨r_1, hc_2, h⟩ := bd1_e h
  refine gd_fI X (gd_V X (As := [.int v1]) (rest := []) (c_Md_isSort l D K a_self a_least s_self v1 r_1 hc_2) 1 (gi_V ml_Md_99 u_Md_isSort) rfl ⟨rfl, rfl⟩ (by decide +kernel) ⟨by decide, by decide⟩ (ci := 7) rfl rfl rfl rfl rfl rfl (Nat.le_of_ble_eq_true rfl) ⟨Nat.zero_le _, Nat.zero_le _⟩ d_Md_treeOf_2) ?_
  refine gd_if_eq X (tgt := 28) d_Md_treeOf_5 (by decide) (fun c_3 => ?_) (fun c_3 => ?_)
  · replace h := it_p c_3 h
    refine gd_iconst X (v := 0) d_Md_treeOf_28 (by decide) ?_
    exact t_Md_treeOf_29 a_self a_least X hr hlk r s_self v1 v2 0 h
  · replace h := it_n c_3 h
    refine gd_iload_n X d_Md_treeOf_8 2 rfl ?_
    refine gd_if_lt X (tgt := 28) d_Md_treeOf_9 (by decide) (fun c_4 => ?_) (fun c_4 => ?_)
    · replace h := it_p c_4 h
      refine gd_iconst X (v := 0) d_Md_treeOf_28 (by decide) ?_
      exact t_Md_treeOf_29 a_self a_least X hr hlk r s_self v1 v2 0 h
    · replace h := it_n c_4 h
      refine gd_iload_n X d_Md_treeOf_12 2 rfl ?_
      refine gd_iconst X (v := 1) d_Md_treeOf_13 (by decide) ?_
      refine gd_icmp_gt X (tgt := 28) d_Md_treeOf_14 (by decide) (fun c_5 => ?_) (fun c_5 => ?_)
      · replace h := it_p c_5 h
        refine gd_iconst X (v := 0) d_Md_treeOf_28 (by decide) ?_
        exact t_Md_treeOf_29 a_self a_least X hr hlk r s_self v1 v2 0 h
      · replace h := it_n c_5 h
        refine gd_aload_n X d_Md_treeOf_17 0 rfl ?_
        refine gd_get X (ci := 7) (C := R_Md) (T := F_Md) (N := 36) (v := .int (s_self 0 10)) 0 0 rfl rfl rfl (in_Md _) 10 (by decide) (List.mem_cons_of_mem _ fl_Md_116) rfl rfl d_Md_treeOf_18 ?_
        refine gd_if_le X (tgt := 28) d_Md_treeOf_21 (by decide) (fun c_6 => ?_) (fun c_6 => ?_)
        · replace h := it_p c_6 h
          refine gd_iconst X (v := 0) d_Md_treeOf_28 (by decide) ?_
          exact t_Md_treeOf_29 a_self a_least X hr hlk r s_self v1 v2 0 h
        · replace h := it_n c_6 h
          refine gd_iconst X (v := 1) d_Md_treeOf_24 (by decide) ?_
          refine gd_goto X (tgt := 29) d_Md_treeOf_25 (by decide) ?_
          exact t_Md_treeOf_29 a_self a_least X hr hlk r s_self v1 v2 1 h
def m_Md_treeOf (s_self : Nat → Nat → Int32) (v1 v2 : Int32) : Option ((Int32)) := f_Md_treeOf_0 s_self v1 v2
set_option maxHeartbeats 4000000 in
set_option maxRecDepth 100000 in
theorem c_Md_treeOf (l : Launch) (D : va_G) (K : Nat → ClassId) (a_self a_least : Nat → Nat) (s_self : Nat → Nat → Int32) (v1 v2 : Int32) (r : Int32) (h : m_Md_treeOf s_self v1 v2 = some r) : SMet l y_Md_treeOf w_Md_treeOf rm_Md_treeOf D classes (tyK K) [.ref (a_self 0), .int v1, .int v2] (some (.int r)) [wd_Md K a_self (a_least 0) s_self] [wd_Md K a_self (a_least 0) s_self] := by
  refine sm_of R_Md (by decide) rfl rfl (Nat.le_of_ble_eq_true rfl) ?_
  intro p e s m below meth c A X hr hlk
  refine gd_loc (lv' := [(0, .ref (a_self 0)), (1, .int v1), (2, .int v2)]) [0, 1, 2] rfl ?_
  exact t_Md_treeOf_0 a_self a_least X hr hlk r s_self v1 v2 h
abbrev b_Md_size : ByteArray := prog_10_method_34_code
def y_Md_size : MethodName := ⟨R_Md, "size", "(II)I"⟩
def w_Md_size : List Cond := .code y_Md_size b_Md_size 3 (some .int) :: TB
theorem k_Md_size : Cond.code y_Md_size b_Md_size 3 (some .int) ∈ TB := tb_of 953 (by decide +kernel) (by decide +kernel)
theorem d_Md_size_0 : decode b_Md_size 0 = .ok (.aload_n 0, 1) := by decide +kernel
theorem d_Md_size_1 : decode b_Md_size 1 = .ok (.iconst 0, 1) := by decide +kernel
theorem d_Md_size_2 : decode b_Md_size 2 = .ok (.putfield 86, 3) := by decide +kernel
theorem d_Md_size_5 : decode b_Md_size 5 = .ok (.aload_n 0, 1) := by decide +kernel
theorem d_Md_size_6 : decode b_Md_size 6 = .ok (.invokevirtual 192, 3) := by decide +kernel
theorem d_Md_size_9 : decode b_Md_size 9 = .ok (.aload_n 0, 1) := by decide +kernel
theorem d_Md_size_10 : decode b_Md_size 10 = .ok (.iload_n 1, 1) := by decide +kernel
theorem d_Md_size_11 : decode b_Md_size 11 = .ok (.iload_n 2, 1) := by decide +kernel
theorem d_Md_size_12 : decode b_Md_size 12 = .ok (.invokevirtual 195, 3) := by decide +kernel
theorem d_Md_size_15 : decode b_Md_size 15 = .ok (.ifCond .ge 7, 3) := by decide +kernel
theorem d_Md_size_18 : decode b_Md_size 18 = .ok (.iconst 0, 1) := by decide +kernel
theorem d_Md_size_19 : decode b_Md_size 19 = .ok (.goto 14, 3) := by decide +kernel
theorem d_Md_size_22 : decode b_Md_size 22 = .ok (.aload_n 0, 1) := by decide +kernel
theorem d_Md_size_23 : decode b_Md_size 23 = .ok (.getfield 35, 3) := by decide +kernel
theorem d_Md_size_26 : decode b_Md_size 26 = .ok (.aload_n 0, 1) := by decide +kernel
theorem d_Md_size_27 : decode b_Md_size 27 = .ok (.iload_n 1, 1) := by decide +kernel
theorem d_Md_size_28 : decode b_Md_size 28 = .ok (.iload_n 2, 1) := by decide +kernel
theorem d_Md_size_29 : decode b_Md_size 29 = .ok (.invokevirtual 195, 3) := by decide +kernel
theorem d_Md_size_32 : decode b_Md_size 32 = .ok (.iaload, 1) := by decide +kernel
theorem d_Md_size_33 : decode b_Md_size 33 = .ok (.ireturn, 1) := by decide +kernel
theorem ml_Md_195 : Cond.methodLink R_Md 195 ⟨"RuleTreesModel", "treeOf", "(II)I"⟩ ∈ TB := tb_of 954 (by decide +kernel) (by decide +kernel)
theorem u_Md_treeOf : (Cond.instanceMethod y_Md_treeOf ∈ TB ∧ Cond.selects R_Md y_Md_treeOf y_Md_treeOf ∈ TB) ∧ Cond.initialized R_Md ∈ TB ∧ Cond.code y_Md_treeOf b_Md_treeOf 4 (some .int) ∈ TB := ⟨⟨(tb_of 956 (by decide +kernel) (by decide +kernel)), (tb_of 54 (by decide +kernel) (by decide +kernel))⟩, (tb_of 70 (by decide +kernel) (by decide +kernel)), k_Md_treeOf⟩
abbrev rm_Md_size : Room := { frames := 6, cells := 0, slots := 0, locals := 152 }
def f_Md_size_0 (N : Nat) (s_self : Nat → Nat → Int32) (v1 v2 : Int32) : Option ((Int32) × (Nat → Nat → Int32)) :=
  nm (st2 s_self 0 0 0) fun s_self_1 =>
  bd1 (m_Md_know N s_self_1) fun s_self_2 =>
  bd1 (m_Md_treeOf s_self_2 v1 v2) fun r_4 =>
  if 0 ≤ r_4 then
    bd1 (m_Md_treeOf s_self_2 v1 v2) fun r_7 =>
    ck r_7 1872 <|
    some ((s_self_2 8 (Int32.toNatClampNeg r_7)), s_self_2)
  else
    some ((0), s_self_2)
set_option maxHeartbeats 4000000 in
set_option maxRecDepth 100000 in
theorem t_Md_size_0 {p : Program} {l : Launch} {e : Env} {s : State} {m : MethodId} {args : Array Value} {below : List Frame} {meth : Method} {c : Code} {A : Nat → Prop} {D : va_G} {K : Nat → ClassId} (a_self a_least : Nat → Nat) (X : gx p s m args c b_Md_size 3 R_Md w_Md_size D classes (tyK K) A) (hr : meth.sig.returnType = some .int) (hlk : meth.locks = false) (N : Nat) (r : Int32) (f_self : Nat → Nat → Int32) (s_self : Nat → Nat → Int32) (v1 v2 : Int32) (h : f_Md_size_0 N s_self v1 v2 = some (r, f_self)) : Gd p l e rm_Md_size s m args below meth c 0 0 (MQ below (sq D classes (tyK K) (some (.int r)) [wd_Md K a_self (a_least 0) f_self] A) args s 0 0 A) D classes A 3 0 [wd_Md K a_self (a_least 0) s_self] [(0, .ref (a_self 0)), (1, .int v1), (2, .int v2)] [] := by
  unfold f_Md_size_0 at h
  refine gd_aload_n X d_Md_size_0 0 rfl ?_
  refine gd_iconst X (v := 0) d_Md_size_1 (by decide) ?_
  obtain ⟨s_self_1, es_self_1, h⟩ := nm_e' h
  refine gd_put X (ci := 7) (C := R_Md) (T := F_Md) (N := 36) (ty := .int) (w' := [wd_Md K a_self (a_least 0) s_self_1]) 0 0 rfl rfl rfl (in_Md _) t_Md t_Md_ok n_Md 0 (by decide) (List.mem_cons_of_mem _ fl_Md_86) rfl rfl (by decide +kernel) rfl rfl (Nat.le_of_ble_eq_true rfl) d_Md_size_2 (by rw [es_self_1]; rfl) ?_
  refine gd_aload_n X d_Md_size_5 0 rfl ?_
  obtain ⟨s_self_2, hc_3, h⟩ := bd1_e h
  refine gd_fv X (w1 := [wd_Md K a_self (a_least 0) s_self_2]) (gd_V X (As := []) (rest := []) (c_Md_know l D K a_self a_least N s_self_1 s_self_2 hc_3) 0 (gi_V ml_Md_192 u_Md_know) rfl ⟨rfl, rfl⟩ (by decide +kernel) ⟨by decide, by decide⟩ (ci := 7) rfl rfl rfl rfl rfl rfl (Nat.le_of_ble_eq_true rfl) ⟨Nat.zero_le _, Nat.zero_le _⟩ d_Md_size_6) ?_
  refine gd_aload_n X d_Md_size_9 0 rfl ?_
  refine gd_iload_n X d_Md_size_10 1 rfl ?_
  refine gd_iload_n X d_Md_size_11 2 rfl ?_
  obtain ⟨r_4, hc_5, h⟩ := bd1_e h
  refine gd_fI X (gd_V X (As := [.int v1, .int v2]) (rest := []) (c_Md_treeOf l D K a_self a_least s_self_2 v1 v2 r_4 hc_5) 2 (gi_V ml_Md_195 u_Md_treeOf) rfl ⟨rfl, rfl⟩ (by decide +kernel) ⟨by decide, by decide⟩ (ci := 7) rfl rfl rfl rfl rfl rfl (Nat.le_of_ble_eq_true rfl) ⟨Nat.zero_le _, Nat.zero_le _⟩ d_Md_size_12) ?_
  refine gd_if_ge X (tgt := 22) d_Md_size_15 (by decide) (fun c_6 => ?_) (fun c_6 => ?_)
  · replace h := it_p c_6 h
    refine gd_aload_n X d_Md_size_22 0 rfl ?_
    refine gd_get X (ci := 7) (C := R_Md) (T := F_Md) (N := 36) (v := .ref (a_self 8)) 0 0 rfl rfl rfl (in_Md _) 16 (by decide) (List.mem_cons_of_mem _ fl_Md_35) rfl rfl d_Md_size_23 ?_
    refine gd_aload_n X d_Md_size_26 0 rfl ?_
    refine gd_iload_n X d_Md_size_27 1 rfl ?_
    refine gd_iload_n X d_Md_size_28 2 rfl ?_
    obtain ⟨r_7, hc_8, h⟩ := bd1_e h
    refine gd_fI X (gd_V X (As := [.int v1, .int v2]) (rest := [.ref (a_self 8)]) (c_Md_treeOf l D K a_self a_least s_self_2 v1 v2 r_7 hc_8) 2 (gi_V ml_Md_195 u_Md_treeOf) rfl ⟨rfl, rfl⟩ (by decide +kernel) ⟨by decide, by decide⟩ (ci := 7) rfl rfl rfl rfl rfl rfl (Nat.le_of_ble_eq_true rfl) ⟨Nat.zero_le _, Nat.zero_le _⟩ d_Md_size_29) ?_
    obtain ⟨hi_9, h⟩ := ck_e h
    refine gd_iald X 0 8 0 rfl rfl rfl hi_9 d_Md_size_32 ?_
    cases h
    exact gd_iret X hr hlk d_Md_size_33
  · replace h := it_n c_6 h
    refine gd_iconst X (v := 0) d_Md_size_18 (by decide) ?_
    refine gd_goto X (tgt := 33) d_Md_size_19 (by decide) ?_
    cases h
    exact gd_iret X hr hlk d_Md_size_33
def m_Md_size (N : Nat) (s_self : Nat → Nat → Int32) (v1 v2 : Int32) : Option ((Int32) × (Nat → Nat → Int32)) := f_Md_size_0 N s_self v1 v2
set_option maxHeartbeats 4000000 in
set_option maxRecDepth 100000 in
theorem c_Md_size (l : Launch) (D : va_G) (K : Nat → ClassId) (a_self a_least : Nat → Nat) (N : Nat) (s_self : Nat → Nat → Int32) (v1 v2 : Int32) (r : Int32) (f_self : Nat → Nat → Int32) (h : m_Md_size N s_self v1 v2 = some (r, f_self)) : SMet l y_Md_size w_Md_size rm_Md_size D classes (tyK K) [.ref (a_self 0), .int v1, .int v2] (some (.int r)) [wd_Md K a_self (a_least 0) s_self] [wd_Md K a_self (a_least 0) f_self] := by
  refine sm_of R_Md (by decide) rfl rfl (Nat.le_of_ble_eq_true rfl) ?_
  intro p e s m below meth c A X hr hlk
  refine gd_loc (lv' := [(0, .ref (a_self 0)), (1, .int v1), (2, .int v2)]) [0, 1, 2] rfl ?_
  exact t_Md_size_0 a_self a_least X hr hlk N r f_self s_self v1 v2 h
