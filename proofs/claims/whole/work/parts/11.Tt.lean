abbrev b_Tt_copyTree : ByteArray := prog_7_method_11_code
def y_Tt_copyTree : MethodName := ⟨R_Tt, "copyTree", "(II)V"⟩
def w_Tt_copyTree : List Cond := .code y_Tt_copyTree b_Tt_copyTree 4 none :: TB
theorem k_Tt_copyTree : Cond.code y_Tt_copyTree b_Tt_copyTree 4 none ∈ TB := tb_of 474 (by decide +kernel) (by decide +kernel)
theorem d_Tt_copyTree_0 : decode b_Tt_copyTree 0 = .ok (.aload_n 0, 1) := by decide +kernel
theorem d_Tt_copyTree_1 : decode b_Tt_copyTree 1 = .ok (.getfield 11, 3) := by decide +kernel
theorem d_Tt_copyTree_4 : decode b_Tt_copyTree 4 = .ok (.iload_n 2, 1) := by decide +kernel
theorem d_Tt_copyTree_5 : decode b_Tt_copyTree 5 = .ok (.aload_n 0, 1) := by decide +kernel
theorem d_Tt_copyTree_6 : decode b_Tt_copyTree 6 = .ok (.getfield 11, 3) := by decide +kernel
theorem d_Tt_copyTree_9 : decode b_Tt_copyTree 9 = .ok (.iload_n 1, 1) := by decide +kernel
theorem d_Tt_copyTree_10 : decode b_Tt_copyTree 10 = .ok (.iaload, 1) := by decide +kernel
theorem d_Tt_copyTree_11 : decode b_Tt_copyTree 11 = .ok (.iastore, 1) := by decide +kernel
theorem d_Tt_copyTree_12 : decode b_Tt_copyTree 12 = .ok (.aload_n 0, 1) := by decide +kernel
theorem d_Tt_copyTree_13 : decode b_Tt_copyTree 13 = .ok (.getfield 15, 3) := by decide +kernel
theorem d_Tt_copyTree_16 : decode b_Tt_copyTree 16 = .ok (.iload_n 2, 1) := by decide +kernel
theorem d_Tt_copyTree_17 : decode b_Tt_copyTree 17 = .ok (.aload_n 0, 1) := by decide +kernel
theorem d_Tt_copyTree_18 : decode b_Tt_copyTree 18 = .ok (.getfield 15, 3) := by decide +kernel
theorem d_Tt_copyTree_21 : decode b_Tt_copyTree 21 = .ok (.iload_n 1, 1) := by decide +kernel
theorem d_Tt_copyTree_22 : decode b_Tt_copyTree 22 = .ok (.iaload, 1) := by decide +kernel
theorem d_Tt_copyTree_23 : decode b_Tt_copyTree 23 = .ok (.iastore, 1) := by decide +kernel
theorem d_Tt_copyTree_24 : decode b_Tt_copyTree 24 = .ok (.aload_n 0, 1) := by decide +kernel
theorem d_Tt_copyTree_25 : decode b_Tt_copyTree 25 = .ok (.getfield 18, 3) := by decide +kernel
theorem d_Tt_copyTree_28 : decode b_Tt_copyTree 28 = .ok (.iload_n 2, 1) := by decide +kernel
theorem d_Tt_copyTree_29 : decode b_Tt_copyTree 29 = .ok (.aload_n 0, 1) := by decide +kernel
theorem d_Tt_copyTree_30 : decode b_Tt_copyTree 30 = .ok (.getfield 18, 3) := by decide +kernel
theorem d_Tt_copyTree_33 : decode b_Tt_copyTree 33 = .ok (.iload_n 1, 1) := by decide +kernel
theorem d_Tt_copyTree_34 : decode b_Tt_copyTree 34 = .ok (.iaload, 1) := by decide +kernel
theorem d_Tt_copyTree_35 : decode b_Tt_copyTree 35 = .ok (.iastore, 1) := by decide +kernel
theorem d_Tt_copyTree_36 : decode b_Tt_copyTree 36 = .ok (.iconst 0, 1) := by decide +kernel
theorem d_Tt_copyTree_37 : decode b_Tt_copyTree 37 = .ok (.istore_n 3, 1) := by decide +kernel
theorem d_Tt_copyTree_38 : decode b_Tt_copyTree 38 = .ok (.iload_n 3, 1) := by decide +kernel
theorem d_Tt_copyTree_39 : decode b_Tt_copyTree 39 = .ok (.aload_n 0, 1) := by decide +kernel
theorem d_Tt_copyTree_40 : decode b_Tt_copyTree 40 = .ok (.getfield 18, 3) := by decide +kernel
theorem d_Tt_copyTree_43 : decode b_Tt_copyTree 43 = .ok (.iload_n 1, 1) := by decide +kernel
theorem d_Tt_copyTree_44 : decode b_Tt_copyTree 44 = .ok (.iaload, 1) := by decide +kernel
theorem d_Tt_copyTree_45 : decode b_Tt_copyTree 45 = .ok (.if_icmp .ge 29, 3) := by decide +kernel
theorem d_Tt_copyTree_48 : decode b_Tt_copyTree 48 = .ok (.aload_n 0, 1) := by decide +kernel
theorem d_Tt_copyTree_49 : decode b_Tt_copyTree 49 = .ok (.getfield 21, 3) := by decide +kernel
theorem d_Tt_copyTree_52 : decode b_Tt_copyTree 52 = .ok (.iload_n 2, 1) := by decide +kernel
theorem d_Tt_copyTree_53 : decode b_Tt_copyTree 53 = .ok (.iconst 4, 1) := by decide +kernel
theorem d_Tt_copyTree_54 : decode b_Tt_copyTree 54 = .ok (.imul, 1) := by decide +kernel
theorem d_Tt_copyTree_55 : decode b_Tt_copyTree 55 = .ok (.iload_n 3, 1) := by decide +kernel
theorem d_Tt_copyTree_56 : decode b_Tt_copyTree 56 = .ok (.iadd, 1) := by decide +kernel
theorem d_Tt_copyTree_57 : decode b_Tt_copyTree 57 = .ok (.aload_n 0, 1) := by decide +kernel
theorem d_Tt_copyTree_58 : decode b_Tt_copyTree 58 = .ok (.getfield 21, 3) := by decide +kernel
theorem d_Tt_copyTree_61 : decode b_Tt_copyTree 61 = .ok (.iload_n 1, 1) := by decide +kernel
theorem d_Tt_copyTree_62 : decode b_Tt_copyTree 62 = .ok (.iconst 4, 1) := by decide +kernel
theorem d_Tt_copyTree_63 : decode b_Tt_copyTree 63 = .ok (.imul, 1) := by decide +kernel
theorem d_Tt_copyTree_64 : decode b_Tt_copyTree 64 = .ok (.iload_n 3, 1) := by decide +kernel
theorem d_Tt_copyTree_65 : decode b_Tt_copyTree 65 = .ok (.iadd, 1) := by decide +kernel
theorem d_Tt_copyTree_66 : decode b_Tt_copyTree 66 = .ok (.iaload, 1) := by decide +kernel
theorem d_Tt_copyTree_67 : decode b_Tt_copyTree 67 = .ok (.iastore, 1) := by decide +kernel
theorem d_Tt_copyTree_68 : decode b_Tt_copyTree 68 = .ok (.iinc 3 1, 3) := by decide +kernel
theorem d_Tt_copyTree_71 : decode b_Tt_copyTree 71 = .ok (.goto (-33), 3) := by decide +kernel
theorem d_Tt_copyTree_74 : decode b_Tt_copyTree 74 = .ok (.return_, 1) := by decide +kernel
abbrev rm_Tt_copyTree : Room := { frames := 0, cells := 0, slots := 0, locals := 0 }
def f_Tt_copyTree_38 (N : Nat) (kb : (Nat → Nat → Int32) → Int32 → Option ((Nat → Nat → Int32))) (kx74 : (Nat → Nat → Int32) → Option ((Nat → Nat → Int32))) (s_self : Nat → Nat → Int32) (v1 v2 v3 : Int32) : Option ((Nat → Nat → Int32)) :=
  ck v1 937 <|
  if (s_self 3 (Int32.toNatClampNeg v1)) ≤ v3 then
    kx74 s_self
  else
    ck ((v1 * 4) + v3) 3748 <|
    ck ((v2 * 4) + v3) 3748 <| nm (st2 s_self 4 (Int32.toNatClampNeg ((v2 * 4) + v3)) (s_self 4 (Int32.toNatClampNeg ((v1 * 4) + v3)))) fun s_self_5 =>
    nm (v3 + 1) fun v3_6 =>
    kb s_self_5 v3_6
set_option maxHeartbeats 4000000 in
set_option maxRecDepth 100000 in
theorem t_Tt_copyTree_38 {p : Program} {l : Launch} {e : Env} {s : State} {m : MethodId} {args : Array Value} {below : List Frame} {meth : Method} {c : Code} {A : Nat → Prop} {D : va_G} {K : Nat → ClassId} (a_self : Nat → Nat) (X : gx p s m args c b_Tt_copyTree 4 R_Tt w_Tt_copyTree D classes (tyK K) A) (hr : meth.sig.returnType = none) (hlk : meth.locks = false) (N : Nat) (f_self : Nat → Nat → Int32) (s_self : Nat → Nat → Int32) (v1 v2 v3 : Int32) (kb : (Nat → Nat → Int32) → Int32 → Option ((Nat → Nat → Int32))) (hkb : ∀ (s_self : Nat → Nat → Int32) (v3 : Int32), kb s_self v3 = some f_self → Gd p l e rm_Tt_copyTree s m args below meth c 0 0 (MQ below (sq D classes (tyK K) none [wd_Tt K a_self f_self] A) args s 0 0 A) D classes A 4 38 [wd_Tt K a_self s_self] [(0, .ref (a_self 0)), (1, .int v1), (2, .int v2), (3, .int v3)] []) (kx74 : (Nat → Nat → Int32) → Option ((Nat → Nat → Int32))) (hkx74 : ∀ (s_self : Nat → Nat → Int32), kx74 s_self = some f_self → Gd p l e rm_Tt_copyTree s m args below meth c 0 0 (MQ below (sq D classes (tyK K) none [wd_Tt K a_self f_self] A) args s 0 0 A) D classes A 4 74 [wd_Tt K a_self s_self] [] []) (h : f_Tt_copyTree_38 N kb kx74 s_self v1 v2 v3 = some f_self) : Gd p l e rm_Tt_copyTree s m args below meth c 0 0 (MQ below (sq D classes (tyK K) none [wd_Tt K a_self f_self] A) args s 0 0 A) D classes A 4 38 [wd_Tt K a_self s_self] [(0, .ref (a_self 0)), (1, .int v1), (2, .int v2), (3, .int v3)] [] := by
  unfold f_Tt_copyTree_38 at h
  refine gd_iload_n X d_Tt_copyTree_38 3 rfl ?_
  refine gd_aload_n X d_Tt_copyTree_39 0 rfl ?_
  refine gd_get X (ci := 2) (C := R_Tt) (T := F_Tt) (N := 6) (v := .ref (a_self 3)) 0 0 rfl rfl rfl (in_Tt _) 2 (by decide) (List.mem_cons_of_mem _ fl_Tt_18) rfl rfl d_Tt_copyTree_40 ?_
  refine gd_iload_n X d_Tt_copyTree_43 1 rfl ?_
  obtain ⟨hi_1, h⟩ := ck_e h
  refine gd_iald X 0 3 0 rfl rfl rfl hi_1 d_Tt_copyTree_44 ?_
  refine gd_icmp_ge X (tgt := 74) d_Tt_copyTree_45 (by decide) (fun c_2 => ?_) (fun c_2 => ?_)
  · replace h := it_p c_2 h
    refine gd_loc (lv' := []) [] rfl ?_
    exact hkx74 s_self h
  · replace h := it_n c_2 h
    refine gd_aload_n X d_Tt_copyTree_48 0 rfl ?_
    refine gd_get X (ci := 2) (C := R_Tt) (T := F_Tt) (N := 6) (v := .ref (a_self 4)) 0 0 rfl rfl rfl (in_Tt _) 3 (by decide) (List.mem_cons_of_mem _ fl_Tt_21) rfl rfl d_Tt_copyTree_49 ?_
    refine gd_iload_n X d_Tt_copyTree_52 2 rfl ?_
    refine gd_iconst X (v := 4) d_Tt_copyTree_53 (by decide) ?_
    refine gd_imul X d_Tt_copyTree_54 ?_
    refine gd_iload_n X d_Tt_copyTree_55 3 rfl ?_
    refine gd_iadd X d_Tt_copyTree_56 ?_
    refine gd_aload_n X d_Tt_copyTree_57 0 rfl ?_
    refine gd_get X (ci := 2) (C := R_Tt) (T := F_Tt) (N := 6) (v := .ref (a_self 4)) 0 0 rfl rfl rfl (in_Tt _) 3 (by decide) (List.mem_cons_of_mem _ fl_Tt_21) rfl rfl d_Tt_copyTree_58 ?_
    refine gd_iload_n X d_Tt_copyTree_61 1 rfl ?_
    refine gd_iconst X (v := 4) d_Tt_copyTree_62 (by decide) ?_
    refine gd_imul X d_Tt_copyTree_63 ?_
    refine gd_iload_n X d_Tt_copyTree_64 3 rfl ?_
    refine gd_iadd X d_Tt_copyTree_65 ?_
    obtain ⟨hi_3, h⟩ := ck_e h
    refine gd_iald X 0 4 0 rfl rfl rfl hi_3 d_Tt_copyTree_66 ?_
    obtain ⟨hi_4, h⟩ := ck_e h
    obtain ⟨s_self_5, es_self_5, h⟩ := nm_e' h
    refine gd_iast X (w' := [wd_Tt K a_self s_self_5]) 0 4 0 rfl rfl rfl hi_4 d_Tt_copyTree_67 (by rw [es_self_5]; rfl) ?_
    obtain ⟨v3_6, ev3_6, h⟩ := nm_e' h
    refine gd_iinc X (v := v3_6) (lv' := [(3, .int v3_6), (0, .ref (a_self 0)), (1, .int v1), (2, .int v2)]) d_Tt_copyTree_68 (k := 3) rfl (by rw [ev3_6]; rfl) (by decide) rfl ?_
    refine gd_goto X (tgt := 38) d_Tt_copyTree_71 (by decide) ?_
    refine gd_loc (lv' := [(0, .ref (a_self 0)), (1, .int v1), (2, .int v2), (3, .int v3_6)]) [1, 2, 3, 0] rfl ?_
    exact hkb s_self_5 v3_6 h
def f_Tt_copyTree_74 (N : Nat) (s_self : Nat → Nat → Int32) : Option ((Nat → Nat → Int32)) :=
  some s_self
set_option maxHeartbeats 4000000 in
set_option maxRecDepth 100000 in
theorem t_Tt_copyTree_74 {p : Program} {l : Launch} {e : Env} {s : State} {m : MethodId} {args : Array Value} {below : List Frame} {meth : Method} {c : Code} {A : Nat → Prop} {D : va_G} {K : Nat → ClassId} (a_self : Nat → Nat) (X : gx p s m args c b_Tt_copyTree 4 R_Tt w_Tt_copyTree D classes (tyK K) A) (hr : meth.sig.returnType = none) (hlk : meth.locks = false) (N : Nat) (f_self : Nat → Nat → Int32) (s_self : Nat → Nat → Int32) (h : f_Tt_copyTree_74 N s_self = some f_self) : Gd p l e rm_Tt_copyTree s m args below meth c 0 0 (MQ below (sq D classes (tyK K) none [wd_Tt K a_self f_self] A) args s 0 0 A) D classes A 4 74 [wd_Tt K a_self s_self] [] [] := by
  unfold f_Tt_copyTree_74 at h
  cases h
  exact gd_vret X hr hlk d_Tt_copyTree_74
def l_Tt_copyTree_38 (N : Nat) (v1 v2 : Int32) (kx74 : (Nat → Nat → Int32) → Option ((Nat → Nat → Int32))) : Nat → (Nat → Nat → Int32) → Int32 → Option ((Nat → Nat → Int32))
  | 0, _, _ => none
  | n + 1, s_self, v3 => f_Tt_copyTree_38 N (l_Tt_copyTree_38 N v1 v2 kx74 n) kx74 s_self v1 v2 v3
set_option maxHeartbeats 4000000 in
set_option maxRecDepth 100000 in
theorem tl_Tt_copyTree_38 {p : Program} {l : Launch} {e : Env} {s : State} {m : MethodId} {args : Array Value} {below : List Frame} {meth : Method} {c : Code} {A : Nat → Prop} {D : va_G} {K : Nat → ClassId} (a_self : Nat → Nat) (X : gx p s m args c b_Tt_copyTree 4 R_Tt w_Tt_copyTree D classes (tyK K) A) (hr : meth.sig.returnType = none) (hlk : meth.locks = false) (N : Nat) (f_self : Nat → Nat → Int32) (v1 v2 : Int32) (kx74 : (Nat → Nat → Int32) → Option ((Nat → Nat → Int32))) (hkx74 : ∀ (s_self : Nat → Nat → Int32), kx74 s_self = some f_self → Gd p l e rm_Tt_copyTree s m args below meth c 0 0 (MQ below (sq D classes (tyK K) none [wd_Tt K a_self f_self] A) args s 0 0 A) D classes A 4 74 [wd_Tt K a_self s_self] [] []) : ∀ (n : Nat) (s_self : Nat → Nat → Int32) (v3 : Int32), l_Tt_copyTree_38 N v1 v2 kx74 n s_self v3 = some f_self → Gd p l e rm_Tt_copyTree s m args below meth c 0 0 (MQ below (sq D classes (tyK K) none [wd_Tt K a_self f_self] A) args s 0 0 A) D classes A 4 38 [wd_Tt K a_self s_self] [(0, .ref (a_self 0)), (1, .int v1), (2, .int v2), (3, .int v3)] [] := by
  intro n
  induction n with
  | zero => intro s_self v3 h; have h : (none : Option ((Nat → Nat → Int32))) = some _ := h; cases h
  | succ n ih =>
    intro s_self v3 h
    exact t_Tt_copyTree_38 a_self X hr hlk N f_self s_self v1 v2 v3 (l_Tt_copyTree_38 N v1 v2 kx74 n) ih kx74 hkx74 h
def f_Tt_copyTree_0 (N : Nat) (s_self : Nat → Nat → Int32) (v1 v2 : Int32) : Option ((Nat → Nat → Int32)) :=
  ck v1 937 <|
  ck v2 937 <| nm (st2 s_self 1 (Int32.toNatClampNeg v2) (s_self 1 (Int32.toNatClampNeg v1))) fun s_self_3 =>
  ck v1 937 <|
  ck v2 937 <| nm (st2 s_self_3 2 (Int32.toNatClampNeg v2) (s_self_3 2 (Int32.toNatClampNeg v1))) fun s_self_6 =>
  ck v1 937 <|
  ck v2 937 <| nm (st2 s_self_6 3 (Int32.toNatClampNeg v2) (s_self_6 3 (Int32.toNatClampNeg v1))) fun s_self_9 =>
  l_Tt_copyTree_38 N v1 v2 (fun s_self => f_Tt_copyTree_74 N s_self) N s_self_9 0
set_option maxHeartbeats 4000000 in
set_option maxRecDepth 100000 in
theorem t_Tt_copyTree_0 {p : Program} {l : Launch} {e : Env} {s : State} {m : MethodId} {args : Array Value} {below : List Frame} {meth : Method} {c : Code} {A : Nat → Prop} {D : va_G} {K : Nat → ClassId} (a_self : Nat → Nat) (X : gx p s m args c b_Tt_copyTree 4 R_Tt w_Tt_copyTree D classes (tyK K) A) (hr : meth.sig.returnType = none) (hlk : meth.locks = false) (N : Nat) (f_self : Nat → Nat → Int32) (s_self : Nat → Nat → Int32) (v1 v2 : Int32) (h : f_Tt_copyTree_0 N s_self v1 v2 = some f_self) : Gd p l e rm_Tt_copyTree s m args below meth c 0 0 (MQ below (sq D classes (tyK K) none [wd_Tt K a_self f_self] A) args s 0 0 A) D classes A 4 0 [wd_Tt K a_self s_self] [(0, .ref (a_self 0)), (1, .int v1), (2, .int v2)] [] := by
  unfold f_Tt_copyTree_0 at h
  refine gd_aload_n X d_Tt_copyTree_0 0 rfl ?_
  refine gd_get X (ci := 2) (C := R_Tt) (T := F_Tt) (N := 6) (v := .ref (a_self 1)) 0 0 rfl rfl rfl (in_Tt _) 0 (by decide) (List.mem_cons_of_mem _ fl_Tt_11) rfl rfl d_Tt_copyTree_1 ?_
  refine gd_iload_n X d_Tt_copyTree_4 2 rfl ?_
  refine gd_aload_n X d_Tt_copyTree_5 0 rfl ?_
  refine gd_get X (ci := 2) (C := R_Tt) (T := F_Tt) (N := 6) (v := .ref (a_self 1)) 0 0 rfl rfl rfl (in_Tt _) 0 (by decide) (List.mem_cons_of_mem _ fl_Tt_11) rfl rfl d_Tt_copyTree_6 ?_
  refine gd_iload_n X d_Tt_copyTree_9 1 rfl ?_
  obtain ⟨hi_1, h⟩ := ck_e h
  refine gd_iald X 0 1 0 rfl rfl rfl hi_1 d_Tt_copyTree_10 ?_
  obtain ⟨hi_2, h⟩ := ck_e h
  obtain ⟨s_self_3, es_self_3, h⟩ := nm_e' h
  refine gd_iast X (w' := [wd_Tt K a_self s_self_3]) 0 1 0 rfl rfl rfl hi_2 d_Tt_copyTree_11 (by rw [es_self_3]; rfl) ?_
  refine gd_aload_n X d_Tt_copyTree_12 0 rfl ?_
  refine gd_get X (ci := 2) (C := R_Tt) (T := F_Tt) (N := 6) (v := .ref (a_self 2)) 0 0 rfl rfl rfl (in_Tt _) 1 (by decide) (List.mem_cons_of_mem _ fl_Tt_15) rfl rfl d_Tt_copyTree_13 ?_
  refine gd_iload_n X d_Tt_copyTree_16 2 rfl ?_
  refine gd_aload_n X d_Tt_copyTree_17 0 rfl ?_
  refine gd_get X (ci := 2) (C := R_Tt) (T := F_Tt) (N := 6) (v := .ref (a_self 2)) 0 0 rfl rfl rfl (in_Tt _) 1 (by decide) (List.mem_cons_of_mem _ fl_Tt_15) rfl rfl d_Tt_copyTree_18 ?_
  refine gd_iload_n X d_Tt_copyTree_21 1 rfl ?_
  obtain ⟨hi_4, h⟩ := ck_e h
  refine gd_iald X 0 2 0 rfl rfl rfl hi_4 d_Tt_copyTree_22 ?_
  obtain ⟨hi_5, h⟩ := ck_e h
  obtain ⟨s_self_6, es_self_6, h⟩ := nm_e' h
  refine gd_iast X (w' := [wd_Tt K a_self s_self_6]) 0 2 0 rfl rfl rfl hi_5 d_Tt_copyTree_23 (by rw [es_self_6]; rfl) ?_
  refine gd_aload_n X d_Tt_copyTree_24 0 rfl ?_
  refine gd_get X (ci := 2) (C := R_Tt) (T := F_Tt) (N := 6) (v := .ref (a_self 3)) 0 0 rfl rfl rfl (in_Tt _) 2 (by decide) (List.mem_cons_of_mem _ fl_Tt_18) rfl rfl d_Tt_copyTree_25 ?_
  refine gd_iload_n X d_Tt_copyTree_28 2 rfl ?_
  refine gd_aload_n X d_Tt_copyTree_29 0 rfl ?_
  refine gd_get X (ci := 2) (C := R_Tt) (T := F_Tt) (N := 6) (v := .ref (a_self 3)) 0 0 rfl rfl rfl (in_Tt _) 2 (by decide) (List.mem_cons_of_mem _ fl_Tt_18) rfl rfl d_Tt_copyTree_30 ?_
  refine gd_iload_n X d_Tt_copyTree_33 1 rfl ?_
  obtain ⟨hi_7, h⟩ := ck_e h
  refine gd_iald X 0 3 0 rfl rfl rfl hi_7 d_Tt_copyTree_34 ?_
  obtain ⟨hi_8, h⟩ := ck_e h
  obtain ⟨s_self_9, es_self_9, h⟩ := nm_e' h
  refine gd_iast X (w' := [wd_Tt K a_self s_self_9]) 0 3 0 rfl rfl rfl hi_8 d_Tt_copyTree_35 (by rw [es_self_9]; rfl) ?_
  refine gd_iconst X (v := 0) d_Tt_copyTree_36 (by decide) ?_
  refine gd_istore_n X (lv' := [(3, .int 0), (0, .ref (a_self 0)), (1, .int v1), (2, .int v2)]) d_Tt_copyTree_37 rfl (by decide) rfl ?_
  refine gd_loc (lv' := [(0, .ref (a_self 0)), (1, .int v1), (2, .int v2), (3, .int 0)]) [1, 2, 3, 0] rfl ?_
  exact tl_Tt_copyTree_38 a_self X hr hlk N f_self v1 v2 (fun s_self => f_Tt_copyTree_74 N s_self) (fun s_self h => t_Tt_copyTree_74 a_self X hr hlk N f_self s_self h) N s_self_9 0 h
def m_Tt_copyTree (N : Nat) (s_self : Nat → Nat → Int32) (v1 v2 : Int32) : Option ((Nat → Nat → Int32)) := f_Tt_copyTree_0 N s_self v1 v2
set_option maxHeartbeats 4000000 in
set_option maxRecDepth 100000 in
theorem c_Tt_copyTree (l : Launch) (D : va_G) (K : Nat → ClassId) (a_self : Nat → Nat) (N : Nat) (s_self : Nat → Nat → Int32) (v1 v2 : Int32) (f_self : Nat → Nat → Int32) (h : m_Tt_copyTree N s_self v1 v2 = some f_self) : SMet l y_Tt_copyTree w_Tt_copyTree rm_Tt_copyTree D classes (tyK K) [.ref (a_self 0), .int v1, .int v2] none [wd_Tt K a_self s_self] [wd_Tt K a_self f_self] := by
  refine sm_of R_Tt (by decide) rfl rfl (Nat.le_of_ble_eq_true rfl) ?_
  intro p e s m below meth c A X hr hlk
  refine gd_loc (lv' := [(0, .ref (a_self 0)), (1, .int v1), (2, .int v2)]) [0, 1, 2] rfl ?_
  exact t_Tt_copyTree_0 a_self X hr hlk N f_self s_self v1 v2 h
abbrev b_Tt_draftSize : ByteArray := prog_7_method_10_code
def y_Tt_draftSize : MethodName := ⟨R_Tt, "draftSize", "()I"⟩
def w_Tt_draftSize : List Cond := .code y_Tt_draftSize b_Tt_draftSize 3 (some .int) :: TB
theorem k_Tt_draftSize : Cond.code y_Tt_draftSize b_Tt_draftSize 3 (some .int) ∈ TB := tb_of 458 (by decide +kernel) (by decide +kernel)
theorem d_Tt_draftSize_0 : decode b_Tt_draftSize 0 = .ok (.iconst 1, 1) := by decide +kernel
theorem d_Tt_draftSize_1 : decode b_Tt_draftSize 1 = .ok (.istore_n 1, 1) := by decide +kernel
theorem d_Tt_draftSize_2 : decode b_Tt_draftSize 2 = .ok (.iconst 0, 1) := by decide +kernel
theorem d_Tt_draftSize_3 : decode b_Tt_draftSize 3 = .ok (.istore_n 2, 1) := by decide +kernel
theorem d_Tt_draftSize_4 : decode b_Tt_draftSize 4 = .ok (.iload_n 2, 1) := by decide +kernel
theorem d_Tt_draftSize_5 : decode b_Tt_draftSize 5 = .ok (.aload_n 0, 1) := by decide +kernel
theorem d_Tt_draftSize_6 : decode b_Tt_draftSize 6 = .ok (.getfield 18, 3) := by decide +kernel
theorem d_Tt_draftSize_9 : decode b_Tt_draftSize 9 = .ok (.sipush 936, 3) := by decide +kernel
theorem d_Tt_draftSize_12 : decode b_Tt_draftSize 12 = .ok (.iaload, 1) := by decide +kernel
theorem d_Tt_draftSize_13 : decode b_Tt_draftSize 13 = .ok (.if_icmp .ge 26, 3) := by decide +kernel
theorem d_Tt_draftSize_16 : decode b_Tt_draftSize 16 = .ok (.iload_n 1, 1) := by decide +kernel
theorem d_Tt_draftSize_17 : decode b_Tt_draftSize 17 = .ok (.aload_n 0, 1) := by decide +kernel
theorem d_Tt_draftSize_18 : decode b_Tt_draftSize 18 = .ok (.aload_n 0, 1) := by decide +kernel
theorem d_Tt_draftSize_19 : decode b_Tt_draftSize 19 = .ok (.getfield 21, 3) := by decide +kernel
theorem d_Tt_draftSize_22 : decode b_Tt_draftSize 22 = .ok (.sipush 3744, 3) := by decide +kernel
theorem d_Tt_draftSize_25 : decode b_Tt_draftSize 25 = .ok (.iload_n 2, 1) := by decide +kernel
theorem d_Tt_draftSize_26 : decode b_Tt_draftSize 26 = .ok (.iadd, 1) := by decide +kernel
theorem d_Tt_draftSize_27 : decode b_Tt_draftSize 27 = .ok (.iaload, 1) := by decide +kernel
theorem d_Tt_draftSize_28 : decode b_Tt_draftSize 28 = .ok (.invokevirtual 60, 3) := by decide +kernel
theorem d_Tt_draftSize_31 : decode b_Tt_draftSize 31 = .ok (.iadd, 1) := by decide +kernel
theorem d_Tt_draftSize_32 : decode b_Tt_draftSize 32 = .ok (.istore_n 1, 1) := by decide +kernel
theorem d_Tt_draftSize_33 : decode b_Tt_draftSize 33 = .ok (.iinc 2 1, 3) := by decide +kernel
theorem d_Tt_draftSize_36 : decode b_Tt_draftSize 36 = .ok (.goto (-32), 3) := by decide +kernel
theorem d_Tt_draftSize_39 : decode b_Tt_draftSize 39 = .ok (.iload_n 1, 1) := by decide +kernel
theorem d_Tt_draftSize_40 : decode b_Tt_draftSize 40 = .ok (.ireturn, 1) := by decide +kernel
theorem ml_Tt_60 : Cond.methodLink R_Tt 60 ⟨"RuleTrees$TreeTable", "sizeAt", "(I)I"⟩ ∈ TB := tb_of 459 (by decide +kernel) (by decide +kernel)
theorem u_Tt_sizeAt : (Cond.instanceMethod y_Tt_sizeAt ∈ TB ∧ Cond.selects R_Tt y_Tt_sizeAt y_Tt_sizeAt ∈ TB) ∧ Cond.initialized R_Tt ∈ TB ∧ Cond.code y_Tt_sizeAt b_Tt_sizeAt 2 (some .int) ∈ TB := ⟨⟨(tb_of 460 (by decide +kernel) (by decide +kernel)), (tb_of 461 (by decide +kernel) (by decide +kernel))⟩, (tb_of 65 (by decide +kernel) (by decide +kernel)), k_Tt_sizeAt⟩
abbrev rm_Tt_draftSize : Room := { frames := 1, cells := 0, slots := 0, locals := 21 }
def f_Tt_draftSize_4 (N : Nat) (kb : Int32 → Int32 → Option ((Int32))) (kx39 : Int32 → Option ((Int32))) (s_self : Nat → Nat → Int32) (v1 v2 : Int32) : Option ((Int32)) :=
  ck 936 937 <|
  if (s_self 3 (Int32.toNatClampNeg 936)) ≤ v2 then
    kx39 v1
  else
    ck (3744 + v2) 3748 <|
    bd1 (m_Tt_sizeAt s_self (s_self 4 (Int32.toNatClampNeg (3744 + v2)))) fun r_4 =>
    nm (v1 + r_4) fun v1_6 =>
    nm (v2 + 1) fun v2_7 =>
    kb v1_6 v2_7
set_option maxHeartbeats 4000000 in
set_option maxRecDepth 100000 in
theorem t_Tt_draftSize_4 {p : Program} {l : Launch} {e : Env} {s : State} {m : MethodId} {args : Array Value} {below : List Frame} {meth : Method} {c : Code} {A : Nat → Prop} {D : va_G} {K : Nat → ClassId} (a_self : Nat → Nat) (X : gx p s m args c b_Tt_draftSize 3 R_Tt w_Tt_draftSize D classes (tyK K) A) (hr : meth.sig.returnType = some .int) (hlk : meth.locks = false) (N : Nat) (r : Int32) (s_self : Nat → Nat → Int32) (v1 v2 : Int32) (kb : Int32 → Int32 → Option ((Int32))) (hkb : ∀ (v1 v2 : Int32), kb v1 v2 = some r → Gd p l e rm_Tt_draftSize s m args below meth c 0 0 (MQ below (sq D classes (tyK K) (some (.int r)) [wd_Tt K a_self s_self] A) args s 0 0 A) D classes A 3 4 [wd_Tt K a_self s_self] [(0, .ref (a_self 0)), (1, .int v1), (2, .int v2)] []) (kx39 : Int32 → Option ((Int32))) (hkx39 : ∀ (v1 : Int32), kx39 v1 = some r → Gd p l e rm_Tt_draftSize s m args below meth c 0 0 (MQ below (sq D classes (tyK K) (some (.int r)) [wd_Tt K a_self s_self] A) args s 0 0 A) D classes A 3 39 [wd_Tt K a_self s_self] [(1, .int v1)] []) (h : f_Tt_draftSize_4 N kb kx39 s_self v1 v2 = some r) : Gd p l e rm_Tt_draftSize s m args below meth c 0 0 (MQ below (sq D classes (tyK K) (some (.int r)) [wd_Tt K a_self s_self] A) args s 0 0 A) D classes A 3 4 [wd_Tt K a_self s_self] [(0, .ref (a_self 0)), (1, .int v1), (2, .int v2)] [] := by
  unfold f_Tt_draftSize_4 at h
  refine gd_iload_n X d_Tt_draftSize_4 2 rfl ?_
  refine gd_aload_n X d_Tt_draftSize_5 0 rfl ?_
  refine gd_get X (ci := 2) (C := R_Tt) (T := F_Tt) (N := 6) (v := .ref (a_self 3)) 0 0 rfl rfl rfl (in_Tt _) 2 (by decide) (List.mem_cons_of_mem _ fl_Tt_18) rfl rfl d_Tt_draftSize_6 ?_
  refine gd_sipush X (v := 936) d_Tt_draftSize_9 (by decide) ?_
  obtain ⟨hi_1, h⟩ := ck_e h
  refine gd_iald X 0 3 0 rfl rfl rfl hi_1 d_Tt_draftSize_12 ?_
  refine gd_icmp_ge X (tgt := 39) d_Tt_draftSize_13 (by decide) (fun c_2 => ?_) (fun c_2 => ?_)
  · replace h := it_p c_2 h
    refine gd_loc (lv' := [(1, .int v1)]) [1] rfl ?_
    exact hkx39 v1 h
  · replace h := it_n c_2 h
    refine gd_iload_n X d_Tt_draftSize_16 1 rfl ?_
    refine gd_aload_n X d_Tt_draftSize_17 0 rfl ?_
    refine gd_aload_n X d_Tt_draftSize_18 0 rfl ?_
    refine gd_get X (ci := 2) (C := R_Tt) (T := F_Tt) (N := 6) (v := .ref (a_self 4)) 0 0 rfl rfl rfl (in_Tt _) 3 (by decide) (List.mem_cons_of_mem _ fl_Tt_21) rfl rfl d_Tt_draftSize_19 ?_
    refine gd_sipush X (v := 3744) d_Tt_draftSize_22 (by decide) ?_
    refine gd_iload_n X d_Tt_draftSize_25 2 rfl ?_
    refine gd_iadd X d_Tt_draftSize_26 ?_
    obtain ⟨hi_3, h⟩ := ck_e h
    refine gd_iald X 0 4 0 rfl rfl rfl hi_3 d_Tt_draftSize_27 ?_
    obtain ⟨r_4, hc_5, h⟩ := bd1_e h
    refine gd_fI X (gd_V X (As := [.int (s_self 4 (Int32.toNatClampNeg (3744 + v2)))]) (rest := [.int v1]) (c_Tt_sizeAt l D K a_self s_self (s_self 4 (Int32.toNatClampNeg (3744 + v2))) r_4 hc_5) 1 (gi_V ml_Tt_60 u_Tt_sizeAt) rfl ⟨rfl, rfl⟩ (by decide +kernel) ⟨by decide, by decide⟩ (ci := 2) rfl rfl rfl rfl rfl rfl (Nat.le_of_ble_eq_true rfl) ⟨Nat.zero_le _, Nat.zero_le _⟩ d_Tt_draftSize_28) ?_
    refine gd_iadd X d_Tt_draftSize_31 ?_
    obtain ⟨v1_6, ev1_6, h⟩ := nm_e' h
    refine gd_topi ev1_6 ?_
    refine gd_istore_n X (lv' := [(1, .int v1_6), (0, .ref (a_self 0)), (2, .int v2)]) d_Tt_draftSize_32 rfl (by decide) rfl ?_
    obtain ⟨v2_7, ev2_7, h⟩ := nm_e' h
    refine gd_iinc X (v := v2_7) (lv' := [(2, .int v2_7), (1, .int v1_6), (0, .ref (a_self 0))]) d_Tt_draftSize_33 (k := 2) rfl (by rw [ev2_7]; rfl) (by decide) rfl ?_
    refine gd_goto X (tgt := 4) d_Tt_draftSize_36 (by decide) ?_
    refine gd_loc (lv' := [(0, .ref (a_self 0)), (1, .int v1_6), (2, .int v2_7)]) [2, 1, 0] rfl ?_
    exact hkb v1_6 v2_7 h
def f_Tt_draftSize_39 (N : Nat) (s_self : Nat → Nat → Int32) (v1 : Int32) : Option ((Int32)) :=
  some (v1)
set_option maxHeartbeats 4000000 in
set_option maxRecDepth 100000 in
theorem t_Tt_draftSize_39 {p : Program} {l : Launch} {e : Env} {s : State} {m : MethodId} {args : Array Value} {below : List Frame} {meth : Method} {c : Code} {A : Nat → Prop} {D : va_G} {K : Nat → ClassId} (a_self : Nat → Nat) (X : gx p s m args c b_Tt_draftSize 3 R_Tt w_Tt_draftSize D classes (tyK K) A) (hr : meth.sig.returnType = some .int) (hlk : meth.locks = false) (N : Nat) (r : Int32) (s_self : Nat → Nat → Int32) (v1 : Int32) (h : f_Tt_draftSize_39 N s_self v1 = some r) : Gd p l e rm_Tt_draftSize s m args below meth c 0 0 (MQ below (sq D classes (tyK K) (some (.int r)) [wd_Tt K a_self s_self] A) args s 0 0 A) D classes A 3 39 [wd_Tt K a_self s_self] [(1, .int v1)] [] := by
  unfold f_Tt_draftSize_39 at h
  refine gd_iload_n X d_Tt_draftSize_39 0 rfl ?_
  cases h
  exact gd_iret X hr hlk d_Tt_draftSize_40
def l_Tt_draftSize_4 (N : Nat) (s_self : Nat → Nat → Int32) (kx39 : Int32 → Option ((Int32))) : Nat → Int32 → Int32 → Option ((Int32))
  | 0, _, _ => none
  | n + 1, v1, v2 => f_Tt_draftSize_4 N (l_Tt_draftSize_4 N s_self kx39 n) kx39 s_self v1 v2
set_option maxHeartbeats 4000000 in
set_option maxRecDepth 100000 in
theorem tl_Tt_draftSize_4 {p : Program} {l : Launch} {e : Env} {s : State} {m : MethodId} {args : Array Value} {below : List Frame} {meth : Method} {c : Code} {A : Nat → Prop} {D : va_G} {K : Nat → ClassId} (a_self : Nat → Nat) (X : gx p s m args c b_Tt_draftSize 3 R_Tt w_Tt_draftSize D classes (tyK K) A) (hr : meth.sig.returnType = some .int) (hlk : meth.locks = false) (N : Nat) (r : Int32) (s_self : Nat → Nat → Int32) (kx39 : Int32 → Option ((Int32))) (hkx39 : ∀ (v1 : Int32), kx39 v1 = some r → Gd p l e rm_Tt_draftSize s m args below meth c 0 0 (MQ below (sq D classes (tyK K) (some (.int r)) [wd_Tt K a_self s_self] A) args s 0 0 A) D classes A 3 39 [wd_Tt K a_self s_self] [(1, .int v1)] []) : ∀ (n : Nat) (v1 v2 : Int32), l_Tt_draftSize_4 N s_self kx39 n v1 v2 = some r → Gd p l e rm_Tt_draftSize s m args below meth c 0 0 (MQ below (sq D classes (tyK K) (some (.int r)) [wd_Tt K a_self s_self] A) args s 0 0 A) D classes A 3 4 [wd_Tt K a_self s_self] [(0, .ref (a_self 0)), (1, .int v1), (2, .int v2)] [] := by
  intro n
  induction n with
  | zero => intro v1 v2 h; have h : (none : Option ((Int32))) = some _ := h; cases h
  | succ n ih =>
    intro v1 v2 h
    exact t_Tt_draftSize_4 a_self X hr hlk N r s_self v1 v2 (l_Tt_draftSize_4 N s_self kx39 n) ih kx39 hkx39 h
def f_Tt_draftSize_0 (N : Nat) (s_self : Nat → Nat → Int32) : Option ((Int32)) :=
  l_Tt_draftSize_4 N s_self (fun v1 => f_Tt_draftSize_39 N s_self v1) N 1 0
set_option maxHeartbeats 4000000 in
set_option maxRecDepth 100000 in
theorem t_Tt_draftSize_0 {p : Program} {l : Launch} {e : Env} {s : State} {m : MethodId} {args : Array Value} {below : List Frame} {meth : Method} {c : Code} {A : Nat → Prop} {D : va_G} {K : Nat → ClassId} (a_self : Nat → Nat) (X : gx p s m args c b_Tt_draftSize 3 R_Tt w_Tt_draftSize D classes (tyK K) A) (hr : meth.sig.returnType = some .int) (hlk : meth.locks = false) (N : Nat) (r : Int32) (s_self : Nat → Nat → Int32) (h : f_Tt_draftSize_0 N s_self = some r) : Gd p l e rm_Tt_draftSize s m args below meth c 0 0 (MQ below (sq D classes (tyK K) (some (.int r)) [wd_Tt K a_self s_self] A) args s 0 0 A) D classes A 3 0 [wd_Tt K a_self s_self] [(0, .ref (a_self 0))] [] := by
  unfold f_Tt_draftSize_0 at h
  refine gd_iconst X (v := 1) d_Tt_draftSize_0 (by decide) ?_
  refine gd_istore_n X (lv' := [(1, .int 1), (0, .ref (a_self 0))]) d_Tt_draftSize_1 rfl (by decide) rfl ?_
  refine gd_iconst X (v := 0) d_Tt_draftSize_2 (by decide) ?_
  refine gd_istore_n X (lv' := [(2, .int 0), (1, .int 1), (0, .ref (a_self 0))]) d_Tt_draftSize_3 rfl (by decide) rfl ?_
  refine gd_loc (lv' := [(0, .ref (a_self 0)), (1, .int 1), (2, .int 0)]) [2, 1, 0] rfl ?_
  exact tl_Tt_draftSize_4 a_self X hr hlk N r s_self (fun v1 => f_Tt_draftSize_39 N s_self v1) (fun v1 h => t_Tt_draftSize_39 a_self X hr hlk N r s_self v1 h) N 1 0 h
def m_Tt_draftSize (N : Nat) (s_self : Nat → Nat → Int32) : Option ((Int32)) := f_Tt_draftSize_0 N s_self
set_option maxHeartbeats 4000000 in
set_option maxRecDepth 100000 in
theorem c_Tt_draftSize (l : Launch) (D : va_G) (K : Nat → ClassId) (a_self : Nat → Nat) (N : Nat) (s_self : Nat → Nat → Int32) (r : Int32) (h : m_Tt_draftSize N s_self = some r) : SMet l y_Tt_draftSize w_Tt_draftSize rm_Tt_draftSize D classes (tyK K) [.ref (a_self 0)] (some (.int r)) [wd_Tt K a_self s_self] [wd_Tt K a_self s_self] := by
  refine sm_of R_Tt (by decide) rfl rfl (Nat.le_of_ble_eq_true rfl) ?_
  intro p e s m below meth c A X hr hlk
  refine gd_loc (lv' := [(0, .ref (a_self 0))]) [0] rfl ?_
  exact t_Tt_draftSize_0 a_self X hr hlk N r s_self h
abbrev b_Tt_stackParts : ByteArray := prog_7_method_13_code
def y_Tt_stackParts : MethodName := ⟨R_Tt, "stackParts", "(I[II)I"⟩
def w_Tt_stackParts : List Cond := .code y_Tt_stackParts b_Tt_stackParts 6 (some .int) :: TB
theorem k_Tt_stackParts : Cond.code y_Tt_stackParts b_Tt_stackParts 6 (some .int) ∈ TB := tb_of 470 (by decide +kernel) (by decide +kernel)
theorem d_Tt_stackParts_0 : decode b_Tt_stackParts 0 = .ok (.iload_n 3, 1) := by decide +kernel
theorem d_Tt_stackParts_1 : decode b_Tt_stackParts 1 = .ok (.istore 4, 2) := by decide +kernel
theorem d_Tt_stackParts_3 : decode b_Tt_stackParts 3 = .ok (.aload_n 0, 1) := by decide +kernel
theorem d_Tt_stackParts_4 : decode b_Tt_stackParts 4 = .ok (.getfield 18, 3) := by decide +kernel
theorem d_Tt_stackParts_7 : decode b_Tt_stackParts 7 = .ok (.iload_n 1, 1) := by decide +kernel
theorem d_Tt_stackParts_8 : decode b_Tt_stackParts 8 = .ok (.iaload, 1) := by decide +kernel
theorem d_Tt_stackParts_9 : decode b_Tt_stackParts 9 = .ok (.iconst 1, 1) := by decide +kernel
theorem d_Tt_stackParts_10 : decode b_Tt_stackParts 10 = .ok (.isub, 1) := by decide +kernel
theorem d_Tt_stackParts_11 : decode b_Tt_stackParts 11 = .ok (.istore 5, 2) := by decide +kernel
theorem d_Tt_stackParts_13 : decode b_Tt_stackParts 13 = .ok (.iload 5, 2) := by decide +kernel
theorem d_Tt_stackParts_15 : decode b_Tt_stackParts 15 = .ok (.ifCond .lt 34, 3) := by decide +kernel
theorem d_Tt_stackParts_18 : decode b_Tt_stackParts 18 = .ok (.iload 4, 2) := by decide +kernel
theorem d_Tt_stackParts_20 : decode b_Tt_stackParts 20 = .ok (.aload_n 2, 1) := by decide +kernel
theorem d_Tt_stackParts_21 : decode b_Tt_stackParts 21 = .ok (.arraylength, 1) := by decide +kernel
theorem d_Tt_stackParts_22 : decode b_Tt_stackParts 22 = .ok (.if_icmp .ge 27, 3) := by decide +kernel
theorem d_Tt_stackParts_25 : decode b_Tt_stackParts 25 = .ok (.aload_n 2, 1) := by decide +kernel
theorem d_Tt_stackParts_26 : decode b_Tt_stackParts 26 = .ok (.iload 4, 2) := by decide +kernel
theorem d_Tt_stackParts_28 : decode b_Tt_stackParts 28 = .ok (.aload_n 0, 1) := by decide +kernel
theorem d_Tt_stackParts_29 : decode b_Tt_stackParts 29 = .ok (.getfield 21, 3) := by decide +kernel
theorem d_Tt_stackParts_32 : decode b_Tt_stackParts 32 = .ok (.iload_n 1, 1) := by decide +kernel
theorem d_Tt_stackParts_33 : decode b_Tt_stackParts 33 = .ok (.iconst 4, 1) := by decide +kernel
theorem d_Tt_stackParts_34 : decode b_Tt_stackParts 34 = .ok (.imul, 1) := by decide +kernel
theorem d_Tt_stackParts_35 : decode b_Tt_stackParts 35 = .ok (.iload 5, 2) := by decide +kernel
theorem d_Tt_stackParts_37 : decode b_Tt_stackParts 37 = .ok (.iadd, 1) := by decide +kernel
theorem d_Tt_stackParts_38 : decode b_Tt_stackParts 38 = .ok (.iaload, 1) := by decide +kernel
theorem d_Tt_stackParts_39 : decode b_Tt_stackParts 39 = .ok (.iastore, 1) := by decide +kernel
theorem d_Tt_stackParts_40 : decode b_Tt_stackParts 40 = .ok (.iinc 4 1, 3) := by decide +kernel
theorem d_Tt_stackParts_43 : decode b_Tt_stackParts 43 = .ok (.iinc 5 (-1), 3) := by decide +kernel
theorem d_Tt_stackParts_46 : decode b_Tt_stackParts 46 = .ok (.goto (-33), 3) := by decide +kernel
theorem d_Tt_stackParts_49 : decode b_Tt_stackParts 49 = .ok (.iload 4, 2) := by decide +kernel
theorem d_Tt_stackParts_51 : decode b_Tt_stackParts 51 = .ok (.ireturn, 1) := by decide +kernel
abbrev rm_Tt_stackParts_5 : Room := { frames := 0, cells := 0, slots := 0, locals := 0 }
def f_Tt_stackParts_5_13 (N : Nat) (kb : (Nat → Nat → Int32) → Int32 → Int32 → Option ((Int32) × (Nat → Nat → Int32))) (kx49 : (Nat → Nat → Int32) → Int32 → Option ((Int32) × (Nat → Nat → Int32))) (s_self : Nat → Nat → Int32) (v1 v4 v5 : Int32) : Option ((Int32) × (Nat → Nat → Int32)) :=
  if v5 < 0 then
    kx49 s_self v4
  else
    if 150 ≤ v4 then
      kx49 s_self v4
    else
      ck ((v1 * 4) + v5) 3748 <|
      ck v4 150 <| nm (st2 s_self 5 (Int32.toNatClampNeg v4) (s_self 4 (Int32.toNatClampNeg ((v1 * 4) + v5)))) fun s_self_5 =>
      nm (v4 + 1) fun v4_6 =>
      nm (v5 + (-1)) fun v5_7 =>
      kb s_self_5 v4_6 v5_7
set_option maxHeartbeats 4000000 in
set_option maxRecDepth 100000 in
theorem t_Tt_stackParts_5_13 {p : Program} {l : Launch} {e : Env} {s : State} {m : MethodId} {args : Array Value} {below : List Frame} {meth : Method} {c : Code} {A : Nat → Prop} {D : va_G} {K : Nat → ClassId} (a_self : Nat → Nat) (X : gx p s m args c b_Tt_stackParts 6 R_Tt w_Tt_stackParts D classes (tyK K) A) (hr : meth.sig.returnType = some .int) (hlk : meth.locks = false) (N : Nat) (r : Int32) (f_self : Nat → Nat → Int32) (s_self : Nat → Nat → Int32) (v1 v4 v5 : Int32) (kb : (Nat → Nat → Int32) → Int32 → Int32 → Option ((Int32) × (Nat → Nat → Int32))) (hkb : ∀ (s_self : Nat → Nat → Int32) (v4 v5 : Int32), kb s_self v4 v5 = some (r, f_self) → Gd p l e rm_Tt_stackParts_5 s m args below meth c 0 0 (MQ below (sq D classes (tyK K) (some (.int r)) [wd_Tt K a_self f_self] A) args s 0 0 A) D classes A 6 13 [wd_Tt K a_self s_self] [(0, .ref (a_self 0)), (1, .int v1), (2, .ref (a_self 5)), (4, .int v4), (5, .int v5)] []) (kx49 : (Nat → Nat → Int32) → Int32 → Option ((Int32) × (Nat → Nat → Int32))) (hkx49 : ∀ (s_self : Nat → Nat → Int32) (v4 : Int32), kx49 s_self v4 = some (r, f_self) → Gd p l e rm_Tt_stackParts_5 s m args below meth c 0 0 (MQ below (sq D classes (tyK K) (some (.int r)) [wd_Tt K a_self f_self] A) args s 0 0 A) D classes A 6 49 [wd_Tt K a_self s_self] [(4, .int v4)] []) (h : f_Tt_stackParts_5_13 N kb kx49 s_self v1 v4 v5 = some (r, f_self)) : Gd p l e rm_Tt_stackParts_5 s m args below meth c 0 0 (MQ below (sq D classes (tyK K) (some (.int r)) [wd_Tt K a_self f_self] A) args s 0 0 A) D classes A 6 13 [wd_Tt K a_self s_self] [(0, .ref (a_self 0)), (1, .int v1), (2, .ref (a_self 5)), (4, .int v4), (5, .int v5)] [] := by
  unfold f_Tt_stackParts_5_13 at h
  refine gd_iload X d_Tt_stackParts_13 4 rfl ?_
  refine gd_if_lt X (tgt := 49) d_Tt_stackParts_15 (by decide) (fun c_1 => ?_) (fun c_1 => ?_)
  · replace h := it_p c_1 h
    refine gd_loc (lv' := [(4, .int v4)]) [3] rfl ?_
    exact hkx49 s_self v4 h
  · replace h := it_n c_1 h
    refine gd_iload X d_Tt_stackParts_18 3 rfl ?_
    refine gd_aload_n X d_Tt_stackParts_20 2 rfl ?_
    refine gd_alen X 0 5 0 rfl rfl rfl (v := 150) (show Int32.ofNat 150 = 150 from by decide) d_Tt_stackParts_21 ?_
    refine gd_icmp_ge X (tgt := 49) d_Tt_stackParts_22 (by decide) (fun c_2 => ?_) (fun c_2 => ?_)
    · replace h := it_p c_2 h
      refine gd_loc (lv' := [(4, .int v4)]) [3] rfl ?_
      exact hkx49 s_self v4 h
    · replace h := it_n c_2 h
      refine gd_aload_n X d_Tt_stackParts_25 2 rfl ?_
      refine gd_iload X d_Tt_stackParts_26 3 rfl ?_
      refine gd_aload_n X d_Tt_stackParts_28 0 rfl ?_
      refine gd_get X (ci := 2) (C := R_Tt) (T := F_Tt) (N := 6) (v := .ref (a_self 4)) 0 0 rfl rfl rfl (in_Tt _) 3 (by decide) (List.mem_cons_of_mem _ fl_Tt_21) rfl rfl d_Tt_stackParts_29 ?_
      refine gd_iload_n X d_Tt_stackParts_32 1 rfl ?_
      refine gd_iconst X (v := 4) d_Tt_stackParts_33 (by decide) ?_
      refine gd_imul X d_Tt_stackParts_34 ?_
      refine gd_iload X d_Tt_stackParts_35 4 rfl ?_
      refine gd_iadd X d_Tt_stackParts_37 ?_
      obtain ⟨hi_3, h⟩ := ck_e h
      refine gd_iald X 0 4 0 rfl rfl rfl hi_3 d_Tt_stackParts_38 ?_
      obtain ⟨hi_4, h⟩ := ck_e h
      obtain ⟨s_self_5, es_self_5, h⟩ := nm_e' h
      refine gd_iast X (w' := [wd_Tt K a_self s_self_5]) 0 5 0 rfl rfl rfl hi_4 d_Tt_stackParts_39 (by rw [es_self_5]; rfl) ?_
      obtain ⟨v4_6, ev4_6, h⟩ := nm_e' h
      refine gd_iinc X (v := v4_6) (lv' := [(4, .int v4_6), (0, .ref (a_self 0)), (1, .int v1), (2, .ref (a_self 5)), (5, .int v5)]) d_Tt_stackParts_40 (k := 3) rfl (by rw [ev4_6]; rfl) (by decide) rfl ?_
      obtain ⟨v5_7, ev5_7, h⟩ := nm_e' h
      refine gd_iinc X (v := v5_7) (lv' := [(5, .int v5_7), (4, .int v4_6), (0, .ref (a_self 0)), (1, .int v1), (2, .ref (a_self 5))]) d_Tt_stackParts_43 (k := 4) rfl (by rw [ev5_7, show Int32.ofInt (-1) = (-1) from by decide]) (by decide) rfl ?_
      refine gd_goto X (tgt := 13) d_Tt_stackParts_46 (by decide) ?_
      refine gd_loc (lv' := [(0, .ref (a_self 0)), (1, .int v1), (2, .ref (a_self 5)), (4, .int v4_6), (5, .int v5_7)]) [2, 3, 4, 1, 0] rfl ?_
      exact hkb s_self_5 v4_6 v5_7 h
def f_Tt_stackParts_5_49 (N : Nat) (s_self : Nat → Nat → Int32) (v4 : Int32) : Option ((Int32) × (Nat → Nat → Int32)) :=
  some ((v4), s_self)
set_option maxHeartbeats 4000000 in
set_option maxRecDepth 100000 in
theorem t_Tt_stackParts_5_49 {p : Program} {l : Launch} {e : Env} {s : State} {m : MethodId} {args : Array Value} {below : List Frame} {meth : Method} {c : Code} {A : Nat → Prop} {D : va_G} {K : Nat → ClassId} (a_self : Nat → Nat) (X : gx p s m args c b_Tt_stackParts 6 R_Tt w_Tt_stackParts D classes (tyK K) A) (hr : meth.sig.returnType = some .int) (hlk : meth.locks = false) (N : Nat) (r : Int32) (f_self : Nat → Nat → Int32) (s_self : Nat → Nat → Int32) (v4 : Int32) (h : f_Tt_stackParts_5_49 N s_self v4 = some (r, f_self)) : Gd p l e rm_Tt_stackParts_5 s m args below meth c 0 0 (MQ below (sq D classes (tyK K) (some (.int r)) [wd_Tt K a_self f_self] A) args s 0 0 A) D classes A 6 49 [wd_Tt K a_self s_self] [(4, .int v4)] [] := by
  unfold f_Tt_stackParts_5_49 at h
  refine gd_iload X d_Tt_stackParts_49 0 rfl ?_
  cases h
  exact gd_iret X hr hlk d_Tt_stackParts_51
def l_Tt_stackParts_5_13 (N : Nat) (v1 : Int32) (kx49 : (Nat → Nat → Int32) → Int32 → Option ((Int32) × (Nat → Nat → Int32))) : Nat → (Nat → Nat → Int32) → Int32 → Int32 → Option ((Int32) × (Nat → Nat → Int32))
  | 0, _, _, _ => none
  | n + 1, s_self, v4, v5 => f_Tt_stackParts_5_13 N (l_Tt_stackParts_5_13 N v1 kx49 n) kx49 s_self v1 v4 v5
set_option maxHeartbeats 4000000 in
set_option maxRecDepth 100000 in
theorem tl_Tt_stackParts_5_13 {p : Program} {l : Launch} {e : Env} {s : State} {m : MethodId} {args : Array Value} {below : List Frame} {meth : Method} {c : Code} {A : Nat → Prop} {D : va_G} {K : Nat → ClassId} (a_self : Nat → Nat) (X : gx p s m args c b_Tt_stackParts 6 R_Tt w_Tt_stackParts D classes (tyK K) A) (hr : meth.sig.returnType = some .int) (hlk : meth.locks = false) (N : Nat) (r : Int32) (f_self : Nat → Nat → Int32) (v1 : Int32) (kx49 : (Nat → Nat → Int32) → Int32 → Option ((Int32) × (Nat → Nat → Int32))) (hkx49 : ∀ (s_self : Nat → Nat → Int32) (v4 : Int32), kx49 s_self v4 = some (r, f_self) → Gd p l e rm_Tt_stackParts_5 s m args below meth c 0 0 (MQ below (sq D classes (tyK K) (some (.int r)) [wd_Tt K a_self f_self] A) args s 0 0 A) D classes A 6 49 [wd_Tt K a_self s_self] [(4, .int v4)] []) : ∀ (n : Nat) (s_self : Nat → Nat → Int32) (v4 v5 : Int32), l_Tt_stackParts_5_13 N v1 kx49 n s_self v4 v5 = some (r, f_self) → Gd p l e rm_Tt_stackParts_5 s m args below meth c 0 0 (MQ below (sq D classes (tyK K) (some (.int r)) [wd_Tt K a_self f_self] A) args s 0 0 A) D classes A 6 13 [wd_Tt K a_self s_self] [(0, .ref (a_self 0)), (1, .int v1), (2, .ref (a_self 5)), (4, .int v4), (5, .int v5)] [] := by
  intro n
  induction n with
  | zero => intro s_self v4 v5 h; have h : (none : Option ((Int32) × (Nat → Nat → Int32))) = some _ := h; cases h
  | succ n ih =>
    intro s_self v4 v5 h
    exact t_Tt_stackParts_5_13 a_self X hr hlk N r f_self s_self v1 v4 v5 (l_Tt_stackParts_5_13 N v1 kx49 n) ih kx49 hkx49 h
def f_Tt_stackParts_5_0 (N : Nat) (s_self : Nat → Nat → Int32) (v1 v3 : Int32) : Option ((Int32) × (Nat → Nat → Int32)) :=
  ck v1 937 <|
  nm ((s_self 3 (Int32.toNatClampNeg v1)) - 1) fun v5_2 =>
  l_Tt_stackParts_5_13 N v1 (fun s_self v4 => f_Tt_stackParts_5_49 N s_self v4) N s_self v3 v5_2
set_option maxHeartbeats 4000000 in
set_option maxRecDepth 100000 in
theorem t_Tt_stackParts_5_0 {p : Program} {l : Launch} {e : Env} {s : State} {m : MethodId} {args : Array Value} {below : List Frame} {meth : Method} {c : Code} {A : Nat → Prop} {D : va_G} {K : Nat → ClassId} (a_self : Nat → Nat) (X : gx p s m args c b_Tt_stackParts 6 R_Tt w_Tt_stackParts D classes (tyK K) A) (hr : meth.sig.returnType = some .int) (hlk : meth.locks = false) (N : Nat) (r : Int32) (f_self : Nat → Nat → Int32) (s_self : Nat → Nat → Int32) (v1 v3 : Int32) (h : f_Tt_stackParts_5_0 N s_self v1 v3 = some (r, f_self)) : Gd p l e rm_Tt_stackParts_5 s m args below meth c 0 0 (MQ below (sq D classes (tyK K) (some (.int r)) [wd_Tt K a_self f_self] A) args s 0 0 A) D classes A 6 0 [wd_Tt K a_self s_self] [(0, .ref (a_self 0)), (1, .int v1), (2, .ref (a_self 5)), (3, .int v3)] [] := by
  unfold f_Tt_stackParts_5_0 at h
  refine gd_iload_n X d_Tt_stackParts_0 3 rfl ?_
  refine gd_istore X (lv' := [(4, .int v3), (0, .ref (a_self 0)), (1, .int v1), (2, .ref (a_self 5)), (3, .int v3)]) d_Tt_stackParts_1 (by decide) rfl ?_
  refine gd_aload_n X d_Tt_stackParts_3 1 rfl ?_
  refine gd_get X (ci := 2) (C := R_Tt) (T := F_Tt) (N := 6) (v := .ref (a_self 3)) 0 0 rfl rfl rfl (in_Tt _) 2 (by decide) (List.mem_cons_of_mem _ fl_Tt_18) rfl rfl d_Tt_stackParts_4 ?_
  refine gd_iload_n X d_Tt_stackParts_7 2 rfl ?_
  obtain ⟨hi_1, h⟩ := ck_e h
  refine gd_iald X 0 3 0 rfl rfl rfl hi_1 d_Tt_stackParts_8 ?_
  refine gd_iconst X (v := 1) d_Tt_stackParts_9 (by decide) ?_
  refine gd_isub X d_Tt_stackParts_10 ?_
  obtain ⟨v5_2, ev5_2, h⟩ := nm_e' h
  refine gd_topi ev5_2 ?_
  refine gd_istore X (lv' := [(5, .int v5_2), (4, .int v3), (0, .ref (a_self 0)), (1, .int v1), (2, .ref (a_self 5)), (3, .int v3)]) d_Tt_stackParts_11 (by decide) rfl ?_
  refine gd_loc (lv' := [(0, .ref (a_self 0)), (1, .int v1), (2, .ref (a_self 5)), (4, .int v3), (5, .int v5_2)]) [2, 3, 4, 1, 0] rfl ?_
  exact tl_Tt_stackParts_5_13 a_self X hr hlk N r f_self v1 (fun s_self v4 => f_Tt_stackParts_5_49 N s_self v4) (fun s_self v4 h => t_Tt_stackParts_5_49 a_self X hr hlk N r f_self s_self v4 h) N s_self v3 v5_2 h
def m_Tt_stackParts_5 (N : Nat) (s_self : Nat → Nat → Int32) (v1 v3 : Int32) : Option ((Int32) × (Nat → Nat → Int32)) := f_Tt_stackParts_5_0 N s_self v1 v3
set_option maxHeartbeats 4000000 in
set_option maxRecDepth 100000 in
theorem c_Tt_stackParts_5 (l : Launch) (D : va_G) (K : Nat → ClassId) (a_self : Nat → Nat) (N : Nat) (s_self : Nat → Nat → Int32) (v1 v3 : Int32) (r : Int32) (f_self : Nat → Nat → Int32) (h : m_Tt_stackParts_5 N s_self v1 v3 = some (r, f_self)) : SMet l y_Tt_stackParts w_Tt_stackParts rm_Tt_stackParts_5 D classes (tyK K) [.ref (a_self 0), .int v1, .ref (a_self 5), .int v3] (some (.int r)) [wd_Tt K a_self s_self] [wd_Tt K a_self f_self] := by
  refine sm_of R_Tt (by decide) rfl rfl (Nat.le_of_ble_eq_true rfl) ?_
  intro p e s m below meth c A X hr hlk
  refine gd_loc (lv' := [(0, .ref (a_self 0)), (1, .int v1), (2, .ref (a_self 5)), (3, .int v3)]) [0, 1, 2, 3] rfl ?_
  exact t_Tt_stackParts_5_0 a_self X hr hlk N r f_self s_self v1 v3 h
