abbrev b_Ch_reachFurther : ByteArray := prog_2_method_11_code
def y_Ch_reachFurther : MethodName := ⟨R_Ch, "reachFurther", "(II)V"⟩
def w_Ch_reachFurther : List Cond := .code y_Ch_reachFurther b_Ch_reachFurther 5 none :: TB
theorem k_Ch_reachFurther : Cond.code y_Ch_reachFurther b_Ch_reachFurther 5 none ∈ TB := tb_of 406 (by decide +kernel) (by decide +kernel)
theorem d_Ch_reachFurther_0 : decode b_Ch_reachFurther 0 = .ok (.iload_n 2, 1) := by decide +kernel
theorem d_Ch_reachFurther_1 : decode b_Ch_reachFurther 1 = .ok (.ifCond .lt 9, 3) := by decide +kernel
theorem d_Ch_reachFurther_4 : decode b_Ch_reachFurther 4 = .ok (.iload_n 2, 1) := by decide +kernel
theorem d_Ch_reachFurther_5 : decode b_Ch_reachFurther 5 = .ok (.bipush 6, 2) := by decide +kernel
theorem d_Ch_reachFurther_7 : decode b_Ch_reachFurther 7 = .ok (.if_icmp .lt 4, 3) := by decide +kernel
theorem d_Ch_reachFurther_10 : decode b_Ch_reachFurther 10 = .ok (.return_, 1) := by decide +kernel
theorem d_Ch_reachFurther_11 : decode b_Ch_reachFurther 11 = .ok (.aload_n 0, 1) := by decide +kernel
theorem d_Ch_reachFurther_12 : decode b_Ch_reachFurther 12 = .ok (.getfield 32, 3) := by decide +kernel
theorem d_Ch_reachFurther_15 : decode b_Ch_reachFurther 15 = .ok (.iload_n 2, 1) := by decide +kernel
theorem d_Ch_reachFurther_16 : decode b_Ch_reachFurther 16 = .ok (.iaload, 1) := by decide +kernel
theorem d_Ch_reachFurther_17 : decode b_Ch_reachFurther 17 = .ok (.iconst 1, 1) := by decide +kernel
theorem d_Ch_reachFurther_18 : decode b_Ch_reachFurther 18 = .ok (.iload_n 2, 1) := by decide +kernel
theorem d_Ch_reachFurther_19 : decode b_Ch_reachFurther 19 = .ok (.ishl, 1) := by decide +kernel
theorem d_Ch_reachFurther_20 : decode b_Ch_reachFurther 20 = .ok (.ior, 1) := by decide +kernel
theorem d_Ch_reachFurther_21 : decode b_Ch_reachFurther 21 = .ok (.istore_n 3, 1) := by decide +kernel
theorem d_Ch_reachFurther_22 : decode b_Ch_reachFurther 22 = .ok (.iconst 0, 1) := by decide +kernel
theorem d_Ch_reachFurther_23 : decode b_Ch_reachFurther 23 = .ok (.istore 4, 2) := by decide +kernel
theorem d_Ch_reachFurther_25 : decode b_Ch_reachFurther 25 = .ok (.iload 4, 2) := by decide +kernel
theorem d_Ch_reachFurther_27 : decode b_Ch_reachFurther 27 = .ok (.bipush 6, 2) := by decide +kernel
theorem d_Ch_reachFurther_29 : decode b_Ch_reachFurther 29 = .ok (.if_icmp .ge 36, 3) := by decide +kernel
theorem d_Ch_reachFurther_32 : decode b_Ch_reachFurther 32 = .ok (.iload 4, 2) := by decide +kernel
theorem d_Ch_reachFurther_34 : decode b_Ch_reachFurther 34 = .ok (.iload_n 1, 1) := by decide +kernel
theorem d_Ch_reachFurther_35 : decode b_Ch_reachFurther 35 = .ok (.if_icmp .eq 13, 3) := by decide +kernel
theorem d_Ch_reachFurther_38 : decode b_Ch_reachFurther 38 = .ok (.aload_n 0, 1) := by decide +kernel
theorem d_Ch_reachFurther_39 : decode b_Ch_reachFurther 39 = .ok (.iload 4, 2) := by decide +kernel
theorem d_Ch_reachFurther_41 : decode b_Ch_reachFurther 41 = .ok (.iload_n 1, 1) := by decide +kernel
theorem d_Ch_reachFurther_42 : decode b_Ch_reachFurther 42 = .ok (.invokevirtual 106, 3) := by decide +kernel
theorem d_Ch_reachFurther_45 : decode b_Ch_reachFurther 45 = .ok (.ifCond .eq 14, 3) := by decide +kernel
theorem d_Ch_reachFurther_48 : decode b_Ch_reachFurther 48 = .ok (.aload_n 0, 1) := by decide +kernel
theorem d_Ch_reachFurther_49 : decode b_Ch_reachFurther 49 = .ok (.getfield 32, 3) := by decide +kernel
theorem d_Ch_reachFurther_52 : decode b_Ch_reachFurther 52 = .ok (.iload 4, 2) := by decide +kernel
theorem d_Ch_reachFurther_54 : decode b_Ch_reachFurther 54 = .ok (.dup2, 1) := by decide +kernel
theorem d_Ch_reachFurther_55 : decode b_Ch_reachFurther 55 = .ok (.iaload, 1) := by decide +kernel
theorem d_Ch_reachFurther_56 : decode b_Ch_reachFurther 56 = .ok (.iload_n 3, 1) := by decide +kernel
theorem d_Ch_reachFurther_57 : decode b_Ch_reachFurther 57 = .ok (.ior, 1) := by decide +kernel
theorem d_Ch_reachFurther_58 : decode b_Ch_reachFurther 58 = .ok (.iastore, 1) := by decide +kernel
theorem d_Ch_reachFurther_59 : decode b_Ch_reachFurther 59 = .ok (.iinc 4 1, 3) := by decide +kernel
theorem d_Ch_reachFurther_62 : decode b_Ch_reachFurther 62 = .ok (.goto (-37), 3) := by decide +kernel
theorem d_Ch_reachFurther_65 : decode b_Ch_reachFurther 65 = .ok (.return_, 1) := by decide +kernel
abbrev rm_Ch_reachFurther : Room := { frames := 1, cells := 0, slots := 0, locals := 22 }
def f_Ch_reachFurther_48 (N : Nat) (kb : (Nat → Nat → Int32) → Int32 → Option ((Nat → Nat → Int32))) (kx65 : (Nat → Nat → Int32) → Option ((Nat → Nat → Int32))) (s_self : Nat → Nat → Int32) (v1 v3 v4 : Int32) : Option ((Nat → Nat → Int32)) :=
  ck v4 6 <|
  ck v4 6 <| nm (st2 s_self 4 (Int32.toNatClampNeg v4) ((s_self 4 (Int32.toNatClampNeg v4)) ||| v3)) fun s_self_3 =>
  nm (v4 + 1) fun v4_4 =>
  kb s_self_3 v4_4
set_option maxHeartbeats 4000000 in
set_option maxRecDepth 100000 in
theorem t_Ch_reachFurther_48 {p : Program} {l : Launch} {e : Env} {s : State} {m : MethodId} {args : Array Value} {below : List Frame} {meth : Method} {c : Code} {A : Nat → Prop} {D : va_G} {K : Nat → ClassId} (a_self a_grammar a_table : Nat → Nat) (X : gx p s m args c b_Ch_reachFurther 5 R_Ch w_Ch_reachFurther D classes (tyK K) A) (hr : meth.sig.returnType = none) (hlk : meth.locks = false) (N : Nat) (f_self : Nat → Nat → Int32) (s_self : Nat → Nat → Int32) (v1 v3 v4 : Int32) (kb : (Nat → Nat → Int32) → Int32 → Option ((Nat → Nat → Int32))) (hkb : ∀ (s_self : Nat → Nat → Int32) (v4 : Int32), kb s_self v4 = some f_self → Gd p l e rm_Ch_reachFurther s m args below meth c 0 0 (MQ below (sq D classes (tyK K) none [wd_Ch K a_self (a_grammar 0) (a_table 0) f_self] A) args s 0 0 A) D classes A 5 25 [wd_Ch K a_self (a_grammar 0) (a_table 0) s_self] [(0, .ref (a_self 0)), (1, .int v1), (3, .int v3), (4, .int v4)] []) (kx65 : (Nat → Nat → Int32) → Option ((Nat → Nat → Int32))) (hkx65 : ∀ (s_self : Nat → Nat → Int32), kx65 s_self = some f_self → Gd p l e rm_Ch_reachFurther s m args below meth c 0 0 (MQ below (sq D classes (tyK K) none [wd_Ch K a_self (a_grammar 0) (a_table 0) f_self] A) args s 0 0 A) D classes A 5 65 [wd_Ch K a_self (a_grammar 0) (a_table 0) s_self] [] []) (h : f_Ch_reachFurther_48 N kb kx65 s_self v1 v3 v4 = some f_self) : Gd p l e rm_Ch_reachFurther s m args below meth c 0 0 (MQ below (sq D classes (tyK K) none [wd_Ch K a_self (a_grammar 0) (a_table 0) f_self] A) args s 0 0 A) D classes A 5 48 [wd_Ch K a_self (a_grammar 0) (a_table 0) s_self] [(0, .ref (a_self 0)), (1, .int v1), (3, .int v3), (4, .int v4)] [] := by
  unfold f_Ch_reachFurther_48 at h
  refine gd_aload_n X d_Ch_reachFurther_48 0 rfl ?_
  refine gd_get X (ci := 3) (C := R_Ch) (T := F_Ch) (N := 12) (v := .ref (a_self 4)) 0 0 rfl rfl rfl (in_Ch _) 8 (by decide) (List.mem_cons_of_mem _ fl_Ch_32) rfl rfl d_Ch_reachFurther_49 ?_
  refine gd_iload X d_Ch_reachFurther_52 3 rfl ?_
  refine gd_dup2 X d_Ch_reachFurther_54 rfl rfl ?_
  obtain ⟨hi_1, h⟩ := ck_e h
  refine gd_iald X 0 4 0 rfl rfl rfl hi_1 d_Ch_reachFurther_55 ?_
  refine gd_iload_n X d_Ch_reachFurther_56 2 rfl ?_
  refine gd_ior X d_Ch_reachFurther_57 ?_
  obtain ⟨hi_2, h⟩ := ck_e h
  obtain ⟨s_self_3, es_self_3, h⟩ := nm_e' h
  refine gd_iast X (w' := [wd_Ch K a_self (a_grammar 0) (a_table 0) s_self_3]) 0 4 0 rfl rfl rfl hi_2 d_Ch_reachFurther_58 (by rw [es_self_3]; rfl) ?_
  obtain ⟨v4_4, ev4_4, h⟩ := nm_e' h
  refine gd_iinc X (v := v4_4) (lv' := [(4, .int v4_4), (0, .ref (a_self 0)), (1, .int v1), (3, .int v3)]) d_Ch_reachFurther_59 (k := 3) rfl (by rw [ev4_4]; rfl) (by decide) rfl ?_
  refine gd_goto X (tgt := 25) d_Ch_reachFurther_62 (by decide) ?_
  refine gd_loc (lv' := [(0, .ref (a_self 0)), (1, .int v1), (3, .int v3), (4, .int v4_4)]) [1, 2, 3, 0] rfl ?_
  exact hkb s_self_3 v4_4 h
def f_Ch_reachFurther_25 (N : Nat) (kb : (Nat → Nat → Int32) → Int32 → Option ((Nat → Nat → Int32))) (kx65 : (Nat → Nat → Int32) → Option ((Nat → Nat → Int32))) (s_self : Nat → Nat → Int32) (v1 v3 v4 : Int32) : Option ((Nat → Nat → Int32)) :=
  if 6 ≤ v4 then
    kx65 s_self
  else
    if v4 = v1 then
      f_Ch_reachFurther_48 N kb kx65 s_self v1 v3 v4
    else
      bd1 (m_Ch_reaches s_self v4 v1) fun r_3 =>
      if r_3 = 0 then
        nm (v4 + 1) fun v4_6 =>
        kb s_self v4_6
      else
        f_Ch_reachFurther_48 N kb kx65 s_self v1 v3 v4
set_option maxHeartbeats 4000000 in
set_option maxRecDepth 100000 in
theorem t_Ch_reachFurther_25 {p : Program} {l : Launch} {e : Env} {s : State} {m : MethodId} {args : Array Value} {below : List Frame} {meth : Method} {c : Code} {A : Nat → Prop} {D : va_G} {K : Nat → ClassId} (a_self a_grammar a_table : Nat → Nat) (X : gx p s m args c b_Ch_reachFurther 5 R_Ch w_Ch_reachFurther D classes (tyK K) A) (hr : meth.sig.returnType = none) (hlk : meth.locks = false) (N : Nat) (f_self : Nat → Nat → Int32) (s_self : Nat → Nat → Int32) (v1 v3 v4 : Int32) (kb : (Nat → Nat → Int32) → Int32 → Option ((Nat → Nat → Int32))) (hkb : ∀ (s_self : Nat → Nat → Int32) (v4 : Int32), kb s_self v4 = some f_self → Gd p l e rm_Ch_reachFurther s m args below meth c 0 0 (MQ below (sq D classes (tyK K) none [wd_Ch K a_self (a_grammar 0) (a_table 0) f_self] A) args s 0 0 A) D classes A 5 25 [wd_Ch K a_self (a_grammar 0) (a_table 0) s_self] [(0, .ref (a_self 0)), (1, .int v1), (3, .int v3), (4, .int v4)] []) (kx65 : (Nat → Nat → Int32) → Option ((Nat → Nat → Int32))) (hkx65 : ∀ (s_self : Nat → Nat → Int32), kx65 s_self = some f_self → Gd p l e rm_Ch_reachFurther s m args below meth c 0 0 (MQ below (sq D classes (tyK K) none [wd_Ch K a_self (a_grammar 0) (a_table 0) f_self] A) args s 0 0 A) D classes A 5 65 [wd_Ch K a_self (a_grammar 0) (a_table 0) s_self] [] []) (h : f_Ch_reachFurther_25 N kb kx65 s_self v1 v3 v4 = some f_self) : Gd p l e rm_Ch_reachFurther s m args below meth c 0 0 (MQ below (sq D classes (tyK K) none [wd_Ch K a_self (a_grammar 0) (a_table 0) f_self] A) args s 0 0 A) D classes A 5 25 [wd_Ch K a_self (a_grammar 0) (a_table 0) s_self] [(0, .ref (a_self 0)), (1, .int v1), (3, .int v3), (4, .int v4)] [] := by
  unfold f_Ch_reachFurther_25 at h
  refine gd_iload X d_Ch_reachFurther_25 3 rfl ?_
  refine gd_bipush X (v := 6) d_Ch_reachFurther_27 (by decide) ?_
  refine gd_icmp_ge X (tgt := 65) d_Ch_reachFurther_29 (by decide) (fun c_1 => ?_) (fun c_1 => ?_)
  · replace h := it_p c_1 h
    refine gd_loc (lv' := []) [] rfl ?_
    exact hkx65 s_self h
  · replace h := it_n c_1 h
    refine gd_iload X d_Ch_reachFurther_32 3 rfl ?_
    refine gd_iload_n X d_Ch_reachFurther_34 1 rfl ?_
    refine gd_icmp_eq X (tgt := 48) d_Ch_reachFurther_35 (by decide) (fun c_2 => ?_) (fun c_2 => ?_)
    · replace h := it_p c_2 h
      exact t_Ch_reachFurther_48 a_self a_grammar a_table X hr hlk N f_self s_self v1 v3 v4 kb hkb kx65 hkx65 h
    · replace h := it_n c_2 h
      refine gd_aload_n X d_Ch_reachFurther_38 0 rfl ?_
      refine gd_iload X d_Ch_reachFurther_39 3 rfl ?_
      refine gd_iload_n X d_Ch_reachFurther_41 1 rfl ?_
      obtain ⟨r_3, hc_4, h⟩ := bd1_e h
      refine gd_fI X (gd_V X (As := [.int v4, .int v1]) (rest := []) (c_Ch_reaches l D K a_self a_grammar a_table s_self v4 v1 r_3 hc_4) 2 (gi_V ml_Ch_106 u_Ch_reaches) rfl ⟨rfl, rfl⟩ (by decide +kernel) ⟨by decide, by decide⟩ (ci := 3) rfl rfl rfl rfl rfl rfl (Nat.le_of_ble_eq_true rfl) ⟨Nat.zero_le _, Nat.zero_le _⟩ d_Ch_reachFurther_42) ?_
      refine gd_if_eq X (tgt := 59) d_Ch_reachFurther_45 (by decide) (fun c_5 => ?_) (fun c_5 => ?_)
      · replace h := it_p c_5 h
        obtain ⟨v4_6, ev4_6, h⟩ := nm_e' h
        refine gd_iinc X (v := v4_6) (lv' := [(4, .int v4_6), (0, .ref (a_self 0)), (1, .int v1), (3, .int v3)]) d_Ch_reachFurther_59 (k := 3) rfl (by rw [ev4_6]; rfl) (by decide) rfl ?_
        refine gd_goto X (tgt := 25) d_Ch_reachFurther_62 (by decide) ?_
        refine gd_loc (lv' := [(0, .ref (a_self 0)), (1, .int v1), (3, .int v3), (4, .int v4_6)]) [1, 2, 3, 0] rfl ?_
        exact hkb s_self v4_6 h
      · replace h := it_n c_5 h
        exact t_Ch_reachFurther_48 a_self a_grammar a_table X hr hlk N f_self s_self v1 v3 v4 kb hkb kx65 hkx65 h
def f_Ch_reachFurther_65 (N : Nat) (s_self : Nat → Nat → Int32) : Option ((Nat → Nat → Int32)) :=
  some s_self
set_option maxHeartbeats 4000000 in
set_option maxRecDepth 100000 in
theorem t_Ch_reachFurther_65 {p : Program} {l : Launch} {e : Env} {s : State} {m : MethodId} {args : Array Value} {below : List Frame} {meth : Method} {c : Code} {A : Nat → Prop} {D : va_G} {K : Nat → ClassId} (a_self a_grammar a_table : Nat → Nat) (X : gx p s m args c b_Ch_reachFurther 5 R_Ch w_Ch_reachFurther D classes (tyK K) A) (hr : meth.sig.returnType = none) (hlk : meth.locks = false) (N : Nat) (f_self : Nat → Nat → Int32) (s_self : Nat → Nat → Int32) (h : f_Ch_reachFurther_65 N s_self = some f_self) : Gd p l e rm_Ch_reachFurther s m args below meth c 0 0 (MQ below (sq D classes (tyK K) none [wd_Ch K a_self (a_grammar 0) (a_table 0) f_self] A) args s 0 0 A) D classes A 5 65 [wd_Ch K a_self (a_grammar 0) (a_table 0) s_self] [] [] := by
  unfold f_Ch_reachFurther_65 at h
  cases h
  exact gd_vret X hr hlk d_Ch_reachFurther_65
def l_Ch_reachFurther_25 (N : Nat) (v1 v3 : Int32) (kx65 : (Nat → Nat → Int32) → Option ((Nat → Nat → Int32))) : Nat → (Nat → Nat → Int32) → Int32 → Option ((Nat → Nat → Int32))
  | 0, _, _ => none
  | n + 1, s_self, v4 => f_Ch_reachFurther_25 N (l_Ch_reachFurther_25 N v1 v3 kx65 n) kx65 s_self v1 v3 v4
set_option maxHeartbeats 4000000 in
set_option maxRecDepth 100000 in
theorem tl_Ch_reachFurther_25 {p : Program} {l : Launch} {e : Env} {s : State} {m : MethodId} {args : Array Value} {below : List Frame} {meth : Method} {c : Code} {A : Nat → Prop} {D : va_G} {K : Nat → ClassId} (a_self a_grammar a_table : Nat → Nat) (X : gx p s m args c b_Ch_reachFurther 5 R_Ch w_Ch_reachFurther D classes (tyK K) A) (hr : meth.sig.returnType = none) (hlk : meth.locks = false) (N : Nat) (f_self : Nat → Nat → Int32) (v1 v3 : Int32) (kx65 : (Nat → Nat → Int32) → Option ((Nat → Nat → Int32))) (hkx65 : ∀ (s_self : Nat → Nat → Int32), kx65 s_self = some f_self → Gd p l e rm_Ch_reachFurther s m args below meth c 0 0 (MQ below (sq D classes (tyK K) none [wd_Ch K a_self (a_grammar 0) (a_table 0) f_self] A) args s 0 0 A) D classes A 5 65 [wd_Ch K a_self (a_grammar 0) (a_table 0) s_self] [] []) : ∀ (n : Nat) (s_self : Nat → Nat → Int32) (v4 : Int32), l_Ch_reachFurther_25 N v1 v3 kx65 n s_self v4 = some f_self → Gd p l e rm_Ch_reachFurther s m args below meth c 0 0 (MQ below (sq D classes (tyK K) none [wd_Ch K a_self (a_grammar 0) (a_table 0) f_self] A) args s 0 0 A) D classes A 5 25 [wd_Ch K a_self (a_grammar 0) (a_table 0) s_self] [(0, .ref (a_self 0)), (1, .int v1), (3, .int v3), (4, .int v4)] [] := by
  intro n
  induction n with
  | zero => intro s_self v4 h; have h : (none : Option ((Nat → Nat → Int32))) = some _ := h; cases h
  | succ n ih =>
    intro s_self v4 h
    exact t_Ch_reachFurther_25 a_self a_grammar a_table X hr hlk N f_self s_self v1 v3 v4 (l_Ch_reachFurther_25 N v1 v3 kx65 n) ih kx65 hkx65 h
def f_Ch_reachFurther_0 (N : Nat) (s_self : Nat → Nat → Int32) (v1 v2 : Int32) : Option ((Nat → Nat → Int32)) :=
  if v2 < 0 then
    some s_self
  else
    if v2 < 6 then
      ck v2 6 <|
      nm ((s_self 4 (Int32.toNatClampNeg v2)) ||| (1 <<< (v2 &&& 31))) fun v3_4 =>
      l_Ch_reachFurther_25 N v1 v3_4 (fun s_self => f_Ch_reachFurther_65 N s_self) N s_self 0
    else
      some s_self
set_option maxHeartbeats 4000000 in
set_option maxRecDepth 100000 in
theorem t_Ch_reachFurther_0 {p : Program} {l : Launch} {e : Env} {s : State} {m : MethodId} {args : Array Value} {below : List Frame} {meth : Method} {c : Code} {A : Nat → Prop} {D : va_G} {K : Nat → ClassId} (a_self a_grammar a_table : Nat → Nat) (X : gx p s m args c b_Ch_reachFurther 5 R_Ch w_Ch_reachFurther D classes (tyK K) A) (hr : meth.sig.returnType = none) (hlk : meth.locks = false) (N : Nat) (f_self : Nat → Nat → Int32) (s_self : Nat → Nat → Int32) (v1 v2 : Int32) (h : f_Ch_reachFurther_0 N s_self v1 v2 = some f_self) : Gd p l e rm_Ch_reachFurther s m args below meth c 0 0 (MQ below (sq D classes (tyK K) none [wd_Ch K a_self (a_grammar 0) (a_table 0) f_self] A) args s 0 0 A) D classes A 5 0 [wd_Ch K a_self (a_grammar 0) (a_table 0) s_self] [(0, .ref (a_self 0)), (1, .int v1), (2, .int v2)] [] := by
  unfold f_Ch_reachFurther_0 at h
  refine gd_iload_n X d_Ch_reachFurther_0 2 rfl ?_
  refine gd_if_lt X (tgt := 10) d_Ch_reachFurther_1 (by decide) (fun c_1 => ?_) (fun c_1 => ?_)
  · replace h := it_p c_1 h
    cases h
    exact gd_vret X hr hlk d_Ch_reachFurther_10
  · replace h := it_n c_1 h
    refine gd_iload_n X d_Ch_reachFurther_4 2 rfl ?_
    refine gd_bipush X (v := 6) d_Ch_reachFurther_5 (by decide) ?_
    refine gd_icmp_lt X (tgt := 11) d_Ch_reachFurther_7 (by decide) (fun c_2 => ?_) (fun c_2 => ?_)
    · replace h := it_p c_2 h
      refine gd_aload_n X d_Ch_reachFurther_11 0 rfl ?_
      refine gd_get X (ci := 3) (C := R_Ch) (T := F_Ch) (N := 12) (v := .ref (a_self 4)) 0 0 rfl rfl rfl (in_Ch _) 8 (by decide) (List.mem_cons_of_mem _ fl_Ch_32) rfl rfl d_Ch_reachFurther_12 ?_
      refine gd_iload_n X d_Ch_reachFurther_15 2 rfl ?_
      obtain ⟨hi_3, h⟩ := ck_e h
      refine gd_iald X 0 4 0 rfl rfl rfl hi_3 d_Ch_reachFurther_16 ?_
      refine gd_iconst X (v := 1) d_Ch_reachFurther_17 (by decide) ?_
      refine gd_iload_n X d_Ch_reachFurther_18 2 rfl ?_
      refine gd_ishl X d_Ch_reachFurther_19 ?_
      refine gd_ior X d_Ch_reachFurther_20 ?_
      obtain ⟨v3_4, ev3_4, h⟩ := nm_e' h
      refine gd_topi ev3_4 ?_
      refine gd_istore_n X (lv' := [(3, .int v3_4), (0, .ref (a_self 0)), (1, .int v1), (2, .int v2)]) d_Ch_reachFurther_21 rfl (by decide) rfl ?_
      refine gd_iconst X (v := 0) d_Ch_reachFurther_22 (by decide) ?_
      refine gd_istore X (lv' := [(4, .int 0), (3, .int v3_4), (0, .ref (a_self 0)), (1, .int v1), (2, .int v2)]) d_Ch_reachFurther_23 (by decide) rfl ?_
      refine gd_loc (lv' := [(0, .ref (a_self 0)), (1, .int v1), (3, .int v3_4), (4, .int 0)]) [2, 3, 1, 0] rfl ?_
      exact tl_Ch_reachFurther_25 a_self a_grammar a_table X hr hlk N f_self v1 v3_4 (fun s_self => f_Ch_reachFurther_65 N s_self) (fun s_self h => t_Ch_reachFurther_65 a_self a_grammar a_table X hr hlk N f_self s_self h) N s_self 0 h
    · replace h := it_n c_2 h
      cases h
      exact gd_vret X hr hlk d_Ch_reachFurther_10
def m_Ch_reachFurther (N : Nat) (s_self : Nat → Nat → Int32) (v1 v2 : Int32) : Option ((Nat → Nat → Int32)) := f_Ch_reachFurther_0 N s_self v1 v2
set_option maxHeartbeats 4000000 in
set_option maxRecDepth 100000 in
theorem c_Ch_reachFurther (l : Launch) (D : va_G) (K : Nat → ClassId) (a_self a_grammar a_table : Nat → Nat) (N : Nat) (s_self : Nat → Nat → Int32) (v1 v2 : Int32) (f_self : Nat → Nat → Int32) (h : m_Ch_reachFurther N s_self v1 v2 = some f_self) : SMet l y_Ch_reachFurther w_Ch_reachFurther rm_Ch_reachFurther D classes (tyK K) [.ref (a_self 0), .int v1, .int v2] none [wd_Ch K a_self (a_grammar 0) (a_table 0) s_self] [wd_Ch K a_self (a_grammar 0) (a_table 0) f_self] := by
  refine sm_of R_Ch (by decide) rfl rfl (Nat.le_of_ble_eq_true rfl) ?_
  intro p e s m below meth c A X hr hlk
  refine gd_loc (lv' := [(0, .ref (a_self 0)), (1, .int v1), (2, .int v2)]) [0, 1, 2] rfl ?_
  exact t_Ch_reachFurther_0 a_self a_grammar a_table X hr hlk N f_self s_self v1 v2 h
abbrev b_Ch_seeRules : ByteArray := prog_2_method_10_code
def y_Ch_seeRules : MethodName := ⟨R_Ch, "seeRules", "()V"⟩
def w_Ch_seeRules : List Cond := .code y_Ch_seeRules b_Ch_seeRules 2 none :: TB
theorem k_Ch_seeRules : Cond.code y_Ch_seeRules b_Ch_seeRules 2 none ∈ TB := tb_of 374 (by decide +kernel) (by decide +kernel)
theorem d_Ch_seeRules_0 : decode b_Ch_seeRules 0 = .ok (.aload_n 0, 1) := by decide +kernel
theorem d_Ch_seeRules_1 : decode b_Ch_seeRules 1 = .ok (.getfield 63, 3) := by decide +kernel
theorem d_Ch_seeRules_4 : decode b_Ch_seeRules 4 = .ok (.istore_n 1, 1) := by decide +kernel
theorem d_Ch_seeRules_5 : decode b_Ch_seeRules 5 = .ok (.iload_n 1, 1) := by decide +kernel
theorem d_Ch_seeRules_6 : decode b_Ch_seeRules 6 = .ok (.aload_n 0, 1) := by decide +kernel
theorem d_Ch_seeRules_7 : decode b_Ch_seeRules 7 = .ok (.getfield 9, 3) := by decide +kernel
theorem d_Ch_seeRules_10 : decode b_Ch_seeRules 10 = .ok (.getfield 67, 3) := by decide +kernel
theorem d_Ch_seeRules_13 : decode b_Ch_seeRules 13 = .ok (.if_icmp .ge 70, 3) := by decide +kernel
theorem d_Ch_seeRules_16 : decode b_Ch_seeRules 16 = .ok (.aload_n 0, 1) := by decide +kernel
theorem d_Ch_seeRules_17 : decode b_Ch_seeRules 17 = .ok (.getfield 9, 3) := by decide +kernel
theorem d_Ch_seeRules_20 : decode b_Ch_seeRules 20 = .ok (.iload_n 1, 1) := by decide +kernel
theorem d_Ch_seeRules_21 : decode b_Ch_seeRules 21 = .ok (.invokevirtual 90, 3) := by decide +kernel
theorem d_Ch_seeRules_24 : decode b_Ch_seeRules 24 = .ok (.ifCond .eq 53, 3) := by decide +kernel
theorem d_Ch_seeRules_27 : decode b_Ch_seeRules 27 = .ok (.aload_n 0, 1) := by decide +kernel
theorem d_Ch_seeRules_28 : decode b_Ch_seeRules 28 = .ok (.getfield 94, 3) := by decide +kernel
theorem d_Ch_seeRules_31 : decode b_Ch_seeRules 31 = .ok (.bipush 30, 2) := by decide +kernel
theorem d_Ch_seeRules_33 : decode b_Ch_seeRules 33 = .ok (.if_icmp .ge 44, 3) := by decide +kernel
theorem d_Ch_seeRules_36 : decode b_Ch_seeRules 36 = .ok (.aload_n 0, 1) := by decide +kernel
theorem d_Ch_seeRules_37 : decode b_Ch_seeRules 37 = .ok (.getfield 29, 3) := by decide +kernel
theorem d_Ch_seeRules_40 : decode b_Ch_seeRules 40 = .ok (.aload_n 0, 1) := by decide +kernel
theorem d_Ch_seeRules_41 : decode b_Ch_seeRules 41 = .ok (.getfield 94, 3) := by decide +kernel
theorem d_Ch_seeRules_44 : decode b_Ch_seeRules 44 = .ok (.iload_n 1, 1) := by decide +kernel
theorem d_Ch_seeRules_45 : decode b_Ch_seeRules 45 = .ok (.iastore, 1) := by decide +kernel
theorem d_Ch_seeRules_46 : decode b_Ch_seeRules 46 = .ok (.aload_n 0, 1) := by decide +kernel
theorem d_Ch_seeRules_47 : decode b_Ch_seeRules 47 = .ok (.dup, 1) := by decide +kernel
theorem d_Ch_seeRules_48 : decode b_Ch_seeRules 48 = .ok (.getfield 94, 3) := by decide +kernel
theorem d_Ch_seeRules_51 : decode b_Ch_seeRules 51 = .ok (.iconst 1, 1) := by decide +kernel
theorem d_Ch_seeRules_52 : decode b_Ch_seeRules 52 = .ok (.iadd, 1) := by decide +kernel
theorem d_Ch_seeRules_53 : decode b_Ch_seeRules 53 = .ok (.putfield 94, 3) := by decide +kernel
theorem d_Ch_seeRules_56 : decode b_Ch_seeRules 56 = .ok (.aload_n 0, 1) := by decide +kernel
theorem d_Ch_seeRules_57 : decode b_Ch_seeRules 57 = .ok (.aload_n 0, 1) := by decide +kernel
theorem d_Ch_seeRules_58 : decode b_Ch_seeRules 58 = .ok (.getfield 9, 3) := by decide +kernel
theorem d_Ch_seeRules_61 : decode b_Ch_seeRules 61 = .ok (.iload_n 1, 1) := by decide +kernel
theorem d_Ch_seeRules_62 : decode b_Ch_seeRules 62 = .ok (.invokevirtual 97, 3) := by decide +kernel
theorem d_Ch_seeRules_65 : decode b_Ch_seeRules 65 = .ok (.aload_n 0, 1) := by decide +kernel
theorem d_Ch_seeRules_66 : decode b_Ch_seeRules 66 = .ok (.getfield 9, 3) := by decide +kernel
theorem d_Ch_seeRules_69 : decode b_Ch_seeRules 69 = .ok (.iload_n 1, 1) := by decide +kernel
theorem d_Ch_seeRules_70 : decode b_Ch_seeRules 70 = .ok (.iconst 0, 1) := by decide +kernel
theorem d_Ch_seeRules_71 : decode b_Ch_seeRules 71 = .ok (.invokevirtual 100, 3) := by decide +kernel
theorem d_Ch_seeRules_74 : decode b_Ch_seeRules 74 = .ok (.invokevirtual 103, 3) := by decide +kernel
theorem d_Ch_seeRules_77 : decode b_Ch_seeRules 77 = .ok (.iinc 1 1, 3) := by decide +kernel
theorem d_Ch_seeRules_80 : decode b_Ch_seeRules 80 = .ok (.goto (-75), 3) := by decide +kernel
theorem d_Ch_seeRules_83 : decode b_Ch_seeRules 83 = .ok (.aload_n 0, 1) := by decide +kernel
theorem d_Ch_seeRules_84 : decode b_Ch_seeRules 84 = .ok (.aload_n 0, 1) := by decide +kernel
theorem d_Ch_seeRules_85 : decode b_Ch_seeRules 85 = .ok (.getfield 9, 3) := by decide +kernel
theorem d_Ch_seeRules_88 : decode b_Ch_seeRules 88 = .ok (.getfield 67, 3) := by decide +kernel
theorem d_Ch_seeRules_91 : decode b_Ch_seeRules 91 = .ok (.putfield 63, 3) := by decide +kernel
theorem d_Ch_seeRules_94 : decode b_Ch_seeRules 94 = .ok (.return_, 1) := by decide +kernel
theorem ml_Ch_103 : Cond.methodLink R_Ch 103 ⟨"RuleTrees$Chart", "reachFurther", "(II)V"⟩ ∈ TB := tb_of 403 (by decide +kernel) (by decide +kernel)
theorem u_Ch_reachFurther : (Cond.instanceMethod y_Ch_reachFurther ∈ TB ∧ Cond.selects R_Ch y_Ch_reachFurther y_Ch_reachFurther ∈ TB) ∧ Cond.initialized R_Ch ∈ TB ∧ Cond.code y_Ch_reachFurther b_Ch_reachFurther 5 none ∈ TB := ⟨⟨(tb_of 405 (by decide +kernel) (by decide +kernel)), (tb_of 2 (by decide +kernel) (by decide +kernel))⟩, (tb_of 64 (by decide +kernel) (by decide +kernel)), k_Ch_reachFurther⟩
theorem fl_Ch_63 : Cond.fieldLink R_Ch 63 "RuleTrees$Chart" "rulesSeen" "I" ∈ TB := tb_of 165 (by decide +kernel) (by decide +kernel)
abbrev rm_Ch_seeRules : Room := { frames := 3, cells := 0, slots := 0, locals := 63 }
def f_Ch_seeRules_5 (N : Nat) (kb : (Nat → Nat → Int32) → Int32 → Option ((Nat → Nat → Int32))) (kx83 : (Nat → Nat → Int32) → Option ((Nat → Nat → Int32))) (s_self s_grammar : Nat → Nat → Int32) (v1 : Int32) : Option ((Nat → Nat → Int32)) :=
  if (s_grammar 0 2) ≤ v1 then
    kx83 s_self
  else
    bd1 (m_Gr_isUnit s_grammar v1) fun r_2 =>
    if r_2 = 0 then
      nm (v1 + 1) fun v1_5 =>
      kb s_self v1_5
    else
      if 30 ≤ (s_self 0 7) then
        nm (v1 + 1) fun v1_7 =>
        kb s_self v1_7
      else
        ck (s_self 0 7) 30 <| nm (st2 s_self 3 (Int32.toNatClampNeg (s_self 0 7)) v1) fun s_self_9 =>
        nm (st2 s_self_9 0 7 ((s_self_9 0 7) + 1)) fun s_self_10 =>
        bd1 (m_Gr_sortOfCode s_grammar v1) fun r_11 =>
        bd1 (m_Gr_sortOfSlot s_grammar v1 0) fun r_13 =>
        bd1 (m_Ch_reachFurther N s_self_10 r_11 r_13) fun s_self_15 =>
        nm (v1 + 1) fun v1_17 =>
        kb s_self_15 v1_17
set_option maxHeartbeats 4000000 in
set_option maxRecDepth 100000 in
theorem t_Ch_seeRules_5 {p : Program} {l : Launch} {e : Env} {s : State} {m : MethodId} {args : Array Value} {below : List Frame} {meth : Method} {c : Code} {A : Nat → Prop} {D : va_G} {K : Nat → ClassId} (a_self a_grammar a_table : Nat → Nat) (X : gx p s m args c b_Ch_seeRules 2 R_Ch w_Ch_seeRules D classes (tyK K) A) (hr : meth.sig.returnType = none) (hlk : meth.locks = false) (N : Nat) (f_self : Nat → Nat → Int32) (s_self s_grammar : Nat → Nat → Int32) (v1 : Int32) (kb : (Nat → Nat → Int32) → Int32 → Option ((Nat → Nat → Int32))) (hkb : ∀ (s_self : Nat → Nat → Int32) (v1 : Int32), kb s_self v1 = some f_self → Gd p l e rm_Ch_seeRules s m args below meth c 0 0 (MQ below (sq D classes (tyK K) none [wd_Ch K a_self (a_grammar 0) (a_table 0) f_self, wd_Gr K a_grammar s_grammar] A) args s 0 0 A) D classes A 2 5 [wd_Ch K a_self (a_grammar 0) (a_table 0) s_self, wd_Gr K a_grammar s_grammar] [(0, .ref (a_self 0)), (1, .int v1)] []) (kx83 : (Nat → Nat → Int32) → Option ((Nat → Nat → Int32))) (hkx83 : ∀ (s_self : Nat → Nat → Int32), kx83 s_self = some f_self → Gd p l e rm_Ch_seeRules s m args below meth c 0 0 (MQ below (sq D classes (tyK K) none [wd_Ch K a_self (a_grammar 0) (a_table 0) f_self, wd_Gr K a_grammar s_grammar] A) args s 0 0 A) D classes A 2 83 [wd_Ch K a_self (a_grammar 0) (a_table 0) s_self, wd_Gr K a_grammar s_grammar] [(0, .ref (a_self 0))] []) (h : f_Ch_seeRules_5 N kb kx83 s_self s_grammar v1 = some f_self) : Gd p l e rm_Ch_seeRules s m args below meth c 0 0 (MQ below (sq D classes (tyK K) none [wd_Ch K a_self (a_grammar 0) (a_table 0) f_self, wd_Gr K a_grammar s_grammar] A) args s 0 0 A) D classes A 2 5 [wd_Ch K a_self (a_grammar 0) (a_table 0) s_self, wd_Gr K a_grammar s_grammar] [(0, .ref (a_self 0)), (1, .int v1)] [] := by
  unfold f_Ch_seeRules_5 at h
  refine gd_iload_n X d_Ch_seeRules_5 1 rfl ?_
  refine gd_aload_n X d_Ch_seeRules_6 0 rfl ?_
  refine gd_get X (ci := 3) (C := R_Ch) (T := F_Ch) (N := 12) (v := .ref (a_grammar 0)) 0 0 rfl rfl rfl (in_Ch _) 0 (by decide) (List.mem_cons_of_mem _ fl_Ch_9) rfl rfl d_Ch_seeRules_7 ?_
  refine gd_get X (ci := 1) (C := R_Gr) (T := F_Gr) (N := 12) (v := .int (s_grammar 0 2)) 1 0 rfl rfl rfl (in_Gr _) 2 (by decide) (List.mem_cons_of_mem _ fl_Ch_67) rfl rfl d_Ch_seeRules_10 ?_
  refine gd_icmp_ge X (tgt := 83) d_Ch_seeRules_13 (by decide) (fun c_1 => ?_) (fun c_1 => ?_)
  · replace h := it_p c_1 h
    refine gd_loc (lv' := [(0, .ref (a_self 0))]) [0] rfl ?_
    exact hkx83 s_self h
  · replace h := it_n c_1 h
    refine gd_aload_n X d_Ch_seeRules_16 0 rfl ?_
    refine gd_get X (ci := 3) (C := R_Ch) (T := F_Ch) (N := 12) (v := .ref (a_grammar 0)) 0 0 rfl rfl rfl (in_Ch _) 0 (by decide) (List.mem_cons_of_mem _ fl_Ch_9) rfl rfl d_Ch_seeRules_17 ?_
    refine gd_iload_n X d_Ch_seeRules_20 1 rfl ?_
    obtain ⟨r_2, hc_3, h⟩ := bd1_e h
    refine gd_pI X (gd_V X (As := [.int v1]) (rest := []) (c_Gr_isUnit l D K a_grammar s_grammar v1 r_2 hc_3) 1 (gi_V ml_Ch_90 u_Gr_isUnit) rfl ⟨rfl, rfl⟩ (by decide +kernel) ⟨by decide, by decide⟩ (ci := 1) rfl rfl rfl rfl rfl rfl (Nat.le_of_ble_eq_true rfl) ⟨Nat.zero_le _, Nat.zero_le _⟩ d_Ch_seeRules_21) [1] rfl rfl ?_
    refine gd_if_eq X (tgt := 77) d_Ch_seeRules_24 (by decide) (fun c_4 => ?_) (fun c_4 => ?_)
    · replace h := it_p c_4 h
      obtain ⟨v1_5, ev1_5, h⟩ := nm_e' h
      refine gd_iinc X (v := v1_5) (lv' := [(1, .int v1_5), (0, .ref (a_self 0))]) d_Ch_seeRules_77 (k := 1) rfl (by rw [ev1_5]; rfl) (by decide) rfl ?_
      refine gd_goto X (tgt := 5) d_Ch_seeRules_80 (by decide) ?_
      refine gd_loc (lv' := [(0, .ref (a_self 0)), (1, .int v1_5)]) [1, 0] rfl ?_
      exact hkb s_self v1_5 h
    · replace h := it_n c_4 h
      refine gd_aload_n X d_Ch_seeRules_27 0 rfl ?_
      refine gd_get X (ci := 3) (C := R_Ch) (T := F_Ch) (N := 12) (v := .int (s_self 0 7)) 0 0 rfl rfl rfl (in_Ch _) 7 (by decide) (List.mem_cons_of_mem _ fl_Ch_94) rfl rfl d_Ch_seeRules_28 ?_
      refine gd_bipush X (v := 30) d_Ch_seeRules_31 (by decide) ?_
      refine gd_icmp_ge X (tgt := 77) d_Ch_seeRules_33 (by decide) (fun c_6 => ?_) (fun c_6 => ?_)
      · replace h := it_p c_6 h
        obtain ⟨v1_7, ev1_7, h⟩ := nm_e' h
        refine gd_iinc X (v := v1_7) (lv' := [(1, .int v1_7), (0, .ref (a_self 0))]) d_Ch_seeRules_77 (k := 1) rfl (by rw [ev1_7]; rfl) (by decide) rfl ?_
        refine gd_goto X (tgt := 5) d_Ch_seeRules_80 (by decide) ?_
        refine gd_loc (lv' := [(0, .ref (a_self 0)), (1, .int v1_7)]) [1, 0] rfl ?_
        exact hkb s_self v1_7 h
      · replace h := it_n c_6 h
        refine gd_aload_n X d_Ch_seeRules_36 0 rfl ?_
        refine gd_get X (ci := 3) (C := R_Ch) (T := F_Ch) (N := 12) (v := .ref (a_self 3)) 0 0 rfl rfl rfl (in_Ch _) 6 (by decide) (List.mem_cons_of_mem _ fl_Ch_29) rfl rfl d_Ch_seeRules_37 ?_
        refine gd_aload_n X d_Ch_seeRules_40 0 rfl ?_
        refine gd_get X (ci := 3) (C := R_Ch) (T := F_Ch) (N := 12) (v := .int (s_self 0 7)) 0 0 rfl rfl rfl (in_Ch _) 7 (by decide) (List.mem_cons_of_mem _ fl_Ch_94) rfl rfl d_Ch_seeRules_41 ?_
        refine gd_iload_n X d_Ch_seeRules_44 1 rfl ?_
        obtain ⟨hi_8, h⟩ := ck_e h
        obtain ⟨s_self_9, es_self_9, h⟩ := nm_e' h
        refine gd_iast X (w' := [wd_Ch K a_self (a_grammar 0) (a_table 0) s_self_9, wd_Gr K a_grammar s_grammar]) 0 3 0 rfl rfl rfl hi_8 d_Ch_seeRules_45 (by rw [es_self_9]; rfl) ?_
        refine gd_aload_n X d_Ch_seeRules_46 0 rfl ?_
        refine gd_dup X d_Ch_seeRules_47 rfl ?_
        refine gd_get X (ci := 3) (C := R_Ch) (T := F_Ch) (N := 12) (v := .int (s_self_9 0 7)) 0 0 rfl rfl rfl (in_Ch _) 7 (by decide) (List.mem_cons_of_mem _ fl_Ch_94) rfl rfl d_Ch_seeRules_48 ?_
        refine gd_iconst X (v := 1) d_Ch_seeRules_51 (by decide) ?_
        refine gd_iadd X d_Ch_seeRules_52 ?_
        obtain ⟨s_self_10, es_self_10, h⟩ := nm_e' h
        refine gd_put X (ci := 3) (C := R_Ch) (T := F_Ch) (N := 12) (ty := .int) (w' := [wd_Ch K a_self (a_grammar 0) (a_table 0) s_self_10, wd_Gr K a_grammar s_grammar]) 0 0 rfl rfl rfl (in_Ch _) t_Ch t_Ch_ok n_Ch 7 (by decide) (List.mem_cons_of_mem _ fl_Ch_94) rfl rfl (by decide +kernel) rfl rfl (Nat.le_of_ble_eq_true rfl) d_Ch_seeRules_53 (by rw [es_self_10]; rfl) ?_
        refine gd_aload_n X d_Ch_seeRules_56 0 rfl ?_
        refine gd_aload_n X d_Ch_seeRules_57 0 rfl ?_
        refine gd_get X (ci := 3) (C := R_Ch) (T := F_Ch) (N := 12) (v := .ref (a_grammar 0)) 0 0 rfl rfl rfl (in_Ch _) 0 (by decide) (List.mem_cons_of_mem _ fl_Ch_9) rfl rfl d_Ch_seeRules_58 ?_
        refine gd_iload_n X d_Ch_seeRules_61 1 rfl ?_
        obtain ⟨r_11, hc_12, h⟩ := bd1_e h
        refine gd_pI X (gd_V X (As := [.int v1]) (rest := [.ref (a_self 0)]) (c_Gr_sortOfCode l D K a_grammar s_grammar v1 r_11 hc_12) 1 (gi_V ml_Ch_97 u_Gr_sortOfCode) rfl ⟨rfl, rfl⟩ (by decide +kernel) ⟨by decide, by decide⟩ (ci := 1) rfl rfl rfl rfl rfl rfl (Nat.le_of_ble_eq_true rfl) ⟨Nat.zero_le _, Nat.zero_le _⟩ d_Ch_seeRules_62) [1] rfl rfl ?_
        refine gd_aload_n X d_Ch_seeRules_65 0 rfl ?_
        refine gd_get X (ci := 3) (C := R_Ch) (T := F_Ch) (N := 12) (v := .ref (a_grammar 0)) 0 0 rfl rfl rfl (in_Ch _) 0 (by decide) (List.mem_cons_of_mem _ fl_Ch_9) rfl rfl d_Ch_seeRules_66 ?_
        refine gd_iload_n X d_Ch_seeRules_69 1 rfl ?_
        refine gd_iconst X (v := 0) d_Ch_seeRules_70 (by decide) ?_
        obtain ⟨r_13, hc_14, h⟩ := bd1_e h
        refine gd_pI X (gd_V X (As := [.int v1, .int 0]) (rest := [.int r_11, .ref (a_self 0)]) (c_Gr_sortOfSlot l D K a_grammar s_grammar v1 0 r_13 hc_14) 2 (gi_V ml_Ch_100 u_Gr_sortOfSlot) rfl ⟨rfl, rfl⟩ (by decide +kernel) ⟨by decide, by decide⟩ (ci := 1) rfl rfl rfl rfl rfl rfl (Nat.le_of_ble_eq_true rfl) ⟨Nat.zero_le _, Nat.zero_le _⟩ d_Ch_seeRules_71) [1] rfl rfl ?_
        obtain ⟨s_self_15, hc_16, h⟩ := bd1_e h
        refine gd_cv X (gd_V X (As := [.int r_11, .int r_13]) (rest := []) (c_Ch_reachFurther l D K a_self a_grammar a_table N s_self_10 r_11 r_13 s_self_15 hc_16) 2 (gi_V ml_Ch_103 u_Ch_reachFurther) rfl ⟨rfl, rfl⟩ (by decide +kernel) ⟨by decide, by decide⟩ (ci := 3) rfl rfl rfl rfl rfl rfl (Nat.le_of_ble_eq_true rfl) ⟨Nat.zero_le _, Nat.zero_le _⟩ d_Ch_seeRules_74) (w2 := [wd_Ch K a_self (a_grammar 0) (a_table 0) s_self_15, wd_Gr K a_grammar s_grammar]) [0] [1] rfl rfl rfl rfl ⟨rfl, rfl⟩ rfl ?_
        obtain ⟨v1_17, ev1_17, h⟩ := nm_e' h
        refine gd_iinc X (v := v1_17) (lv' := [(1, .int v1_17), (0, .ref (a_self 0))]) d_Ch_seeRules_77 (k := 1) rfl (by rw [ev1_17]; rfl) (by decide) rfl ?_
        refine gd_goto X (tgt := 5) d_Ch_seeRules_80 (by decide) ?_
        refine gd_loc (lv' := [(0, .ref (a_self 0)), (1, .int v1_17)]) [1, 0] rfl ?_
        exact hkb s_self_15 v1_17 h
def f_Ch_seeRules_83 (N : Nat) (s_self s_grammar : Nat → Nat → Int32) : Option ((Nat → Nat → Int32)) :=
  nm (st2 s_self 0 5 (s_grammar 0 2)) fun s_self_1 =>
  some s_self_1
set_option maxHeartbeats 4000000 in
set_option maxRecDepth 100000 in
theorem t_Ch_seeRules_83 {p : Program} {l : Launch} {e : Env} {s : State} {m : MethodId} {args : Array Value} {below : List Frame} {meth : Method} {c : Code} {A : Nat → Prop} {D : va_G} {K : Nat → ClassId} (a_self a_grammar a_table : Nat → Nat) (X : gx p s m args c b_Ch_seeRules 2 R_Ch w_Ch_seeRules D classes (tyK K) A) (hr : meth.sig.returnType = none) (hlk : meth.locks = false) (N : Nat) (f_self : Nat → Nat → Int32) (s_self s_grammar : Nat → Nat → Int32) (h : f_Ch_seeRules_83 N s_self s_grammar = some f_self) : Gd p l e rm_Ch_seeRules s m args below meth c 0 0 (MQ below (sq D classes (tyK K) none [wd_Ch K a_self (a_grammar 0) (a_table 0) f_self, wd_Gr K a_grammar s_grammar] A) args s 0 0 A) D classes A 2 83 [wd_Ch K a_self (a_grammar 0) (a_table 0) s_self, wd_Gr K a_grammar s_grammar] [(0, .ref (a_self 0))] [] := by
  unfold f_Ch_seeRules_83 at h
  refine gd_aload_n X d_Ch_seeRules_83 0 rfl ?_
  refine gd_aload_n X d_Ch_seeRules_84 0 rfl ?_
  refine gd_get X (ci := 3) (C := R_Ch) (T := F_Ch) (N := 12) (v := .ref (a_grammar 0)) 0 0 rfl rfl rfl (in_Ch _) 0 (by decide) (List.mem_cons_of_mem _ fl_Ch_9) rfl rfl d_Ch_seeRules_85 ?_
  refine gd_get X (ci := 1) (C := R_Gr) (T := F_Gr) (N := 12) (v := .int (s_grammar 0 2)) 1 0 rfl rfl rfl (in_Gr _) 2 (by decide) (List.mem_cons_of_mem _ fl_Ch_67) rfl rfl d_Ch_seeRules_88 ?_
  obtain ⟨s_self_1, es_self_1, h⟩ := nm_e' h
  refine gd_put X (ci := 3) (C := R_Ch) (T := F_Ch) (N := 12) (ty := .int) (w' := [wd_Ch K a_self (a_grammar 0) (a_table 0) s_self_1, wd_Gr K a_grammar s_grammar]) 0 0 rfl rfl rfl (in_Ch _) t_Ch t_Ch_ok n_Ch 5 (by decide) (List.mem_cons_of_mem _ fl_Ch_63) rfl rfl (by decide +kernel) rfl rfl (Nat.le_of_ble_eq_true rfl) d_Ch_seeRules_91 (by rw [es_self_1]; rfl) ?_
  cases h
  exact gd_vret X hr hlk d_Ch_seeRules_94
def l_Ch_seeRules_5 (N : Nat) (s_grammar : Nat → Nat → Int32) (kx83 : (Nat → Nat → Int32) → Option ((Nat → Nat → Int32))) : Nat → (Nat → Nat → Int32) → Int32 → Option ((Nat → Nat → Int32))
  | 0, _, _ => none
  | n + 1, s_self, v1 => f_Ch_seeRules_5 N (l_Ch_seeRules_5 N s_grammar kx83 n) kx83 s_self s_grammar v1
set_option maxHeartbeats 4000000 in
set_option maxRecDepth 100000 in
theorem tl_Ch_seeRules_5 {p : Program} {l : Launch} {e : Env} {s : State} {m : MethodId} {args : Array Value} {below : List Frame} {meth : Method} {c : Code} {A : Nat → Prop} {D : va_G} {K : Nat → ClassId} (a_self a_grammar a_table : Nat → Nat) (X : gx p s m args c b_Ch_seeRules 2 R_Ch w_Ch_seeRules D classes (tyK K) A) (hr : meth.sig.returnType = none) (hlk : meth.locks = false) (N : Nat) (f_self : Nat → Nat → Int32) (s_grammar : Nat → Nat → Int32) (kx83 : (Nat → Nat → Int32) → Option ((Nat → Nat → Int32))) (hkx83 : ∀ (s_self : Nat → Nat → Int32), kx83 s_self = some f_self → Gd p l e rm_Ch_seeRules s m args below meth c 0 0 (MQ below (sq D classes (tyK K) none [wd_Ch K a_self (a_grammar 0) (a_table 0) f_self, wd_Gr K a_grammar s_grammar] A) args s 0 0 A) D classes A 2 83 [wd_Ch K a_self (a_grammar 0) (a_table 0) s_self, wd_Gr K a_grammar s_grammar] [(0, .ref (a_self 0))] []) : ∀ (n : Nat) (s_self : Nat → Nat → Int32) (v1 : Int32), l_Ch_seeRules_5 N s_grammar kx83 n s_self v1 = some f_self → Gd p l e rm_Ch_seeRules s m args below meth c 0 0 (MQ below (sq D classes (tyK K) none [wd_Ch K a_self (a_grammar 0) (a_table 0) f_self, wd_Gr K a_grammar s_grammar] A) args s 0 0 A) D classes A 2 5 [wd_Ch K a_self (a_grammar 0) (a_table 0) s_self, wd_Gr K a_grammar s_grammar] [(0, .ref (a_self 0)), (1, .int v1)] [] := by
  intro n
  induction n with
  | zero => intro s_self v1 h; have h : (none : Option ((Nat → Nat → Int32))) = some _ := h; cases h
  | succ n ih =>
    intro s_self v1 h
    exact t_Ch_seeRules_5 a_self a_grammar a_table X hr hlk N f_self s_self s_grammar v1 (l_Ch_seeRules_5 N s_grammar kx83 n) ih kx83 hkx83 h
def f_Ch_seeRules_0 (N : Nat) (s_self s_grammar : Nat → Nat → Int32) : Option ((Nat → Nat → Int32)) :=
  nm (s_self 0 5) fun v1_1 =>
  l_Ch_seeRules_5 N s_grammar (fun s_self => f_Ch_seeRules_83 N s_self s_grammar) N s_self v1_1
set_option maxHeartbeats 4000000 in
set_option maxRecDepth 100000 in
theorem t_Ch_seeRules_0 {p : Program} {l : Launch} {e : Env} {s : State} {m : MethodId} {args : Array Value} {below : List Frame} {meth : Method} {c : Code} {A : Nat → Prop} {D : va_G} {K : Nat → ClassId} (a_self a_grammar a_table : Nat → Nat) (X : gx p s m args c b_Ch_seeRules 2 R_Ch w_Ch_seeRules D classes (tyK K) A) (hr : meth.sig.returnType = none) (hlk : meth.locks = false) (N : Nat) (f_self : Nat → Nat → Int32) (s_self s_grammar : Nat → Nat → Int32) (h : f_Ch_seeRules_0 N s_self s_grammar = some f_self) : Gd p l e rm_Ch_seeRules s m args below meth c 0 0 (MQ below (sq D classes (tyK K) none [wd_Ch K a_self (a_grammar 0) (a_table 0) f_self, wd_Gr K a_grammar s_grammar] A) args s 0 0 A) D classes A 2 0 [wd_Ch K a_self (a_grammar 0) (a_table 0) s_self, wd_Gr K a_grammar s_grammar] [(0, .ref (a_self 0))] [] := by
  unfold f_Ch_seeRules_0 at h
  refine gd_aload_n X d_Ch_seeRules_0 0 rfl ?_
  refine gd_get X (ci := 3) (C := R_Ch) (T := F_Ch) (N := 12) (v := .int (s_self 0 5)) 0 0 rfl rfl rfl (in_Ch _) 5 (by decide) (List.mem_cons_of_mem _ fl_Ch_63) rfl rfl d_Ch_seeRules_1 ?_
  obtain ⟨v1_1, ev1_1, h⟩ := nm_e' h
  refine gd_topi ev1_1 ?_
  refine gd_istore_n X (lv' := [(1, .int v1_1), (0, .ref (a_self 0))]) d_Ch_seeRules_4 rfl (by decide) rfl ?_
  refine gd_loc (lv' := [(0, .ref (a_self 0)), (1, .int v1_1)]) [1, 0] rfl ?_
  exact tl_Ch_seeRules_5 a_self a_grammar a_table X hr hlk N f_self s_grammar (fun s_self => f_Ch_seeRules_83 N s_self s_grammar) (fun s_self h => t_Ch_seeRules_83 a_self a_grammar a_table X hr hlk N f_self s_self s_grammar h) N s_self v1_1 h
def m_Ch_seeRules (N : Nat) (s_self s_grammar : Nat → Nat → Int32) : Option ((Nat → Nat → Int32)) := f_Ch_seeRules_0 N s_self s_grammar
set_option maxHeartbeats 4000000 in
set_option maxRecDepth 100000 in
theorem c_Ch_seeRules (l : Launch) (D : va_G) (K : Nat → ClassId) (a_self a_grammar a_table : Nat → Nat) (N : Nat) (s_self s_grammar : Nat → Nat → Int32) (f_self : Nat → Nat → Int32) (h : m_Ch_seeRules N s_self s_grammar = some f_self) : SMet l y_Ch_seeRules w_Ch_seeRules rm_Ch_seeRules D classes (tyK K) [.ref (a_self 0)] none [wd_Ch K a_self (a_grammar 0) (a_table 0) s_self, wd_Gr K a_grammar s_grammar] [wd_Ch K a_self (a_grammar 0) (a_table 0) f_self, wd_Gr K a_grammar s_grammar] := by
  refine sm_of R_Ch (by decide) rfl rfl (Nat.le_of_ble_eq_true rfl) ?_
  intro p e s m below meth c A X hr hlk
  refine gd_loc (lv' := [(0, .ref (a_self 0))]) [0] rfl ?_
  exact t_Ch_seeRules_0 a_self a_grammar a_table X hr hlk N f_self s_self s_grammar h
