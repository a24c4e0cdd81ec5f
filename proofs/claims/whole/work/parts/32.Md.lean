abbrev b_Md_close : ByteArray := prog_10_method_10_code
def y_Md_close : MethodName := ⟨R_Md, "close", "()I"⟩
def w_Md_close : List Cond := .code y_Md_close b_Md_close 2 (some .int) :: TB
theorem k_Md_close : Cond.code y_Md_close b_Md_close 2 (some .int) ∈ TB := tb_of 862 (by decide +kernel) (by decide +kernel)
theorem d_Md_close_0 : decode b_Md_close 0 = .ok (.aload_n 0, 1) := by decide +kernel
theorem d_Md_close_1 : decode b_Md_close 1 = .ok (.iconst 0, 1) := by decide +kernel
theorem d_Md_close_2 : decode b_Md_close 2 = .ok (.putfield 86, 3) := by decide +kernel
theorem d_Md_close_5 : decode b_Md_close 5 = .ok (.aload_n 0, 1) := by decide +kernel
theorem d_Md_close_6 : decode b_Md_close 6 = .ok (.getfield 106, 3) := by decide +kernel
theorem d_Md_close_9 : decode b_Md_close 9 = .ok (.ifCond .eq 13, 3) := by decide +kernel
theorem d_Md_close_12 : decode b_Md_close 12 = .ok (.aload_n 0, 1) := by decide +kernel
theorem d_Md_close_13 : decode b_Md_close 13 = .ok (.getfield 16, 3) := by decide +kernel
theorem d_Md_close_16 : decode b_Md_close 16 = .ok (.bipush 30, 2) := by decide +kernel
theorem d_Md_close_18 : decode b_Md_close 18 = .ok (.iaload, 1) := by decide +kernel
theorem d_Md_close_19 : decode b_Md_close 19 = .ok (.ifCond .ne 5, 3) := by decide +kernel
theorem d_Md_close_22 : decode b_Md_close 22 = .ok (.iconst (-1), 1) := by decide +kernel
theorem d_Md_close_23 : decode b_Md_close 23 = .ok (.ireturn, 1) := by decide +kernel
theorem d_Md_close_24 : decode b_Md_close 24 = .ok (.aload_n 0, 1) := by decide +kernel
theorem d_Md_close_25 : decode b_Md_close 25 = .ok (.iconst 0, 1) := by decide +kernel
theorem d_Md_close_26 : decode b_Md_close 26 = .ok (.putfield 106, 3) := by decide +kernel
theorem d_Md_close_29 : decode b_Md_close 29 = .ok (.aload_n 0, 1) := by decide +kernel
theorem d_Md_close_30 : decode b_Md_close 30 = .ok (.getfield 13, 3) := by decide +kernel
theorem d_Md_close_33 : decode b_Md_close 33 = .ok (.aload_n 0, 1) := by decide +kernel
theorem d_Md_close_34 : decode b_Md_close 34 = .ok (.getfield 103, 3) := by decide +kernel
theorem d_Md_close_37 : decode b_Md_close 37 = .ok (.aload_n 0, 1) := by decide +kernel
theorem d_Md_close_38 : decode b_Md_close 38 = .ok (.getfield 13, 3) := by decide +kernel
theorem d_Md_close_41 : decode b_Md_close 41 = .ok (.bipush 30, 2) := by decide +kernel
theorem d_Md_close_43 : decode b_Md_close 43 = .ok (.iaload, 1) := by decide +kernel
theorem d_Md_close_44 : decode b_Md_close 44 = .ok (.iastore, 1) := by decide +kernel
theorem d_Md_close_45 : decode b_Md_close 45 = .ok (.aload_n 0, 1) := by decide +kernel
theorem d_Md_close_46 : decode b_Md_close 46 = .ok (.getfield 16, 3) := by decide +kernel
theorem d_Md_close_49 : decode b_Md_close 49 = .ok (.aload_n 0, 1) := by decide +kernel
theorem d_Md_close_50 : decode b_Md_close 50 = .ok (.getfield 103, 3) := by decide +kernel
theorem d_Md_close_53 : decode b_Md_close 53 = .ok (.aload_n 0, 1) := by decide +kernel
theorem d_Md_close_54 : decode b_Md_close 54 = .ok (.getfield 16, 3) := by decide +kernel
theorem d_Md_close_57 : decode b_Md_close 57 = .ok (.bipush 30, 2) := by decide +kernel
theorem d_Md_close_59 : decode b_Md_close 59 = .ok (.iaload, 1) := by decide +kernel
theorem d_Md_close_60 : decode b_Md_close 60 = .ok (.iastore, 1) := by decide +kernel
theorem d_Md_close_61 : decode b_Md_close 61 = .ok (.iconst 0, 1) := by decide +kernel
theorem d_Md_close_62 : decode b_Md_close 62 = .ok (.istore_n 1, 1) := by decide +kernel
theorem d_Md_close_63 : decode b_Md_close 63 = .ok (.iload_n 1, 1) := by decide +kernel
theorem d_Md_close_64 : decode b_Md_close 64 = .ok (.bipush 8, 2) := by decide +kernel
theorem d_Md_close_66 : decode b_Md_close 66 = .ok (.if_icmp .ge 33, 3) := by decide +kernel
theorem d_Md_close_69 : decode b_Md_close 69 = .ok (.aload_n 0, 1) := by decide +kernel
theorem d_Md_close_70 : decode b_Md_close 70 = .ok (.getfield 19, 3) := by decide +kernel
theorem d_Md_close_73 : decode b_Md_close 73 = .ok (.bipush 8, 2) := by decide +kernel
theorem d_Md_close_75 : decode b_Md_close 75 = .ok (.aload_n 0, 1) := by decide +kernel
theorem d_Md_close_76 : decode b_Md_close 76 = .ok (.getfield 103, 3) := by decide +kernel
theorem d_Md_close_79 : decode b_Md_close 79 = .ok (.imul, 1) := by decide +kernel
theorem d_Md_close_80 : decode b_Md_close 80 = .ok (.iload_n 1, 1) := by decide +kernel
theorem d_Md_close_81 : decode b_Md_close 81 = .ok (.iadd, 1) := by decide +kernel
theorem d_Md_close_82 : decode b_Md_close 82 = .ok (.aload_n 0, 1) := by decide +kernel
theorem d_Md_close_83 : decode b_Md_close 83 = .ok (.getfield 19, 3) := by decide +kernel
theorem d_Md_close_86 : decode b_Md_close 86 = .ok (.sipush 240, 3) := by decide +kernel
theorem d_Md_close_89 : decode b_Md_close 89 = .ok (.iload_n 1, 1) := by decide +kernel
theorem d_Md_close_90 : decode b_Md_close 90 = .ok (.iadd, 1) := by decide +kernel
theorem d_Md_close_91 : decode b_Md_close 91 = .ok (.iaload, 1) := by decide +kernel
theorem d_Md_close_92 : decode b_Md_close 92 = .ok (.iastore, 1) := by decide +kernel
theorem d_Md_close_93 : decode b_Md_close 93 = .ok (.iinc 1 1, 3) := by decide +kernel
theorem d_Md_close_96 : decode b_Md_close 96 = .ok (.goto (-33), 3) := by decide +kernel
theorem d_Md_close_99 : decode b_Md_close 99 = .ok (.aload_n 0, 1) := by decide +kernel
theorem d_Md_close_100 : decode b_Md_close 100 = .ok (.dup, 1) := by decide +kernel
theorem d_Md_close_101 : decode b_Md_close 101 = .ok (.getfield 103, 3) := by decide +kernel
theorem d_Md_close_104 : decode b_Md_close 104 = .ok (.iconst 1, 1) := by decide +kernel
theorem d_Md_close_105 : decode b_Md_close 105 = .ok (.iadd, 1) := by decide +kernel
theorem d_Md_close_106 : decode b_Md_close 106 = .ok (.putfield 103, 3) := by decide +kernel
theorem d_Md_close_109 : decode b_Md_close 109 = .ok (.aload_n 0, 1) := by decide +kernel
theorem d_Md_close_110 : decode b_Md_close 110 = .ok (.iconst 0, 1) := by decide +kernel
theorem d_Md_close_111 : decode b_Md_close 111 = .ok (.putfield 95, 3) := by decide +kernel
theorem d_Md_close_114 : decode b_Md_close 114 = .ok (.aload_n 0, 1) := by decide +kernel
theorem d_Md_close_115 : decode b_Md_close 115 = .ok (.getfield 103, 3) := by decide +kernel
theorem d_Md_close_118 : decode b_Md_close 118 = .ok (.iconst 1, 1) := by decide +kernel
theorem d_Md_close_119 : decode b_Md_close 119 = .ok (.isub, 1) := by decide +kernel
theorem d_Md_close_120 : decode b_Md_close 120 = .ok (.ireturn, 1) := by decide +kernel
abbrev rm_Md_close : Room := { frames := 0, cells := 0, slots := 0, locals := 0 }
def f_Md_close_63 (N : Nat) (kb : (Nat → Nat → Int32) → Int32 → Option ((Int32) × (Nat → Nat → Int32))) (kx99 : (Nat → Nat → Int32) → Option ((Int32) × (Nat → Nat → Int32))) (s_self : Nat → Nat → Int32) (v1 : Int32) : Option ((Int32) × (Nat → Nat → Int32)) :=
  if 8 ≤ v1 then
    kx99 s_self
  else
    ck (240 + v1) 248 <|
    ck ((8 * (s_self 0 4)) + v1) 248 <| nm (st2 s_self 4 (Int32.toNatClampNeg ((8 * (s_self 0 4)) + v1)) (s_self 4 (Int32.toNatClampNeg (240 + v1)))) fun s_self_4 =>
    nm (v1 + 1) fun v1_5 =>
    kb s_self_4 v1_5
set_option maxHeartbeats 4000000 in
set_option maxRecDepth 100000 in
theorem t_Md_close_63 {p : Program} {l : Launch} {e : Env} {s : State} {m : MethodId} {args : Array Value} {below : List Frame} {meth : Method} {c : Code} {A : Nat → Prop} {D : va_G} {K : Nat → ClassId} (a_self a_least : Nat → Nat) (X : gx p s m args c b_Md_close 2 R_Md w_Md_close D classes (tyK K) A) (hr : meth.sig.returnType = some .int) (hlk : meth.locks = false) (N : Nat) (r : Int32) (f_self : Nat → Nat → Int32) (s_self : Nat → Nat → Int32) (v1 : Int32) (kb : (Nat → Nat → Int32) → Int32 → Option ((Int32) × (Nat → Nat → Int32))) (hkb : ∀ (s_self : Nat → Nat → Int32) (v1 : Int32), kb s_self v1 = some (r, f_self) → Gd p l e rm_Md_close s m args below meth c 0 0 (MQ below (sq D classes (tyK K) (some (.int r)) [wd_Md K a_self (a_least 0) f_self] A) args s 0 0 A) D classes A 2 63 [wd_Md K a_self (a_least 0) s_self] [(0, .ref (a_self 0)), (1, .int v1)] []) (kx99 : (Nat → Nat → Int32) → Option ((Int32) × (Nat → Nat → Int32))) (hkx99 : ∀ (s_self : Nat → Nat → Int32), kx99 s_self = some (r, f_self) → Gd p l e rm_Md_close s m args below meth c 0 0 (MQ below (sq D classes (tyK K) (some (.int r)) [wd_Md K a_self (a_least 0) f_self] A) args s 0 0 A) D classes A 2 99 [wd_Md K a_self (a_least 0) s_self] [(0, .ref (a_self 0))] []) (h : f_Md_close_63 N kb kx99 s_self v1 = some (r, f_self)) : Gd p l e rm_Md_close s m args below meth c 0 0 (MQ below (sq D classes (tyK K) (some (.int r)) [wd_Md K a_self (a_least 0) f_self] A) args s 0 0 A) D classes A 2 63 [wd_Md K a_self (a_least 0) s_self] [(0, .ref (a_self 0)), (1, .int v1)] [] := by
  unfold f_Md_close_63 at h
  refine gd_iload_n X d_Md_close_63 1 rfl ?_
  refine gd_bipush X (v := 8) d_Md_close_64 (by decide) ?_
  refine gd_icmp_ge X (tgt := 99) d_Md_close_66 (by decide) (fun c_1 => ?_) (fun c_1 => ?_)
  · replace h := it_p c_1 h
    refine gd_loc (lv' := [(0, .ref (a_self 0))]) [0] rfl ?_
    exact hkx99 s_self h
  · replace h := it_n c_1 h
    refine gd_aload_n X d_Md_close_69 0 rfl ?_
    refine gd_get X (ci := 7) (C := R_Md) (T := F_Md) (N := 36) (v := .ref (a_self 4)) 0 0 rfl rfl rfl (in_Md _) 8 (by decide) (List.mem_cons_of_mem _ fl_Md_19) rfl rfl d_Md_close_70 ?_
    refine gd_bipush X (v := 8) d_Md_close_73 (by decide) ?_
    refine gd_aload_n X d_Md_close_75 0 rfl ?_
    refine gd_get X (ci := 7) (C := R_Md) (T := F_Md) (N := 36) (v := .int (s_self 0 4)) 0 0 rfl rfl rfl (in_Md _) 4 (by decide) (List.mem_cons_of_mem _ fl_Md_103) rfl rfl d_Md_close_76 ?_
    refine gd_imul X d_Md_close_79 ?_
    refine gd_iload_n X d_Md_close_80 1 rfl ?_
    refine gd_iadd X d_Md_close_81 ?_
    refine gd_aload_n X d_Md_close_82 0 rfl ?_
    refine gd_get X (ci := 7) (C := R_Md) (T := F_Md) (N := 36) (v := .ref (a_self 4)) 0 0 rfl rfl rfl (in_Md _) 8 (by decide) (List.mem_cons_of_mem _ fl_Md_19) rfl rfl d_Md_close_83 ?_
    refine gd_sipush X (v := 240) d_Md_close_86 (by decide) ?_
    refine gd_iload_n X d_Md_close_89 1 rfl ?_
    refine gd_iadd X d_Md_close_90 ?_
    obtain ⟨hi_2, h⟩ := ck_e h
    refine gd_iald X 0 4 0 rfl rfl rfl hi_2 d_Md_close_91 ?_
    obtain ⟨hi_3, h⟩ := ck_e h
    obtain ⟨s_self_4, es_self_4, h⟩ := nm_e' h
    refine gd_iast X (w' := [wd_Md K a_self (a_least 0) s_self_4]) 0 4 0 rfl rfl rfl hi_3 d_Md_close_92 (by rw [es_self_4]; rfl) ?_
    obtain ⟨v1_5, ev1_5, h⟩ := nm_e' h
    refine gd_iinc X (v := v1_5) (lv' := [(1, .int v1_5), (0, .ref (a_self 0))]) d_Md_close_93 (k := 1) rfl (by rw [ev1_5]; rfl) (by decide) rfl ?_
    refine gd_goto X (tgt := 63) d_Md_close_96 (by decide) ?_
    refine gd_loc (lv' := [(0, .ref (a_self 0)), (1, .int v1_5)]) [1, 0] rfl ?_
    exact hkb s_self_4 v1_5 h
def f_Md_close_99 (N : Nat) (s_self : Nat → Nat → Int32) : Option ((Int32) × (Nat → Nat → Int32)) :=
  nm (st2 s_self 0 4 ((s_self 0 4) + 1)) fun s_self_1 =>
  nm (st2 s_self_1 0 14 0) fun s_self_2 =>
  some (((s_self_2 0 4) - 1), s_self_2)
set_option maxHeartbeats 4000000 in
set_option maxRecDepth 100000 in
theorem t_Md_close_99 {p : Program} {l : Launch} {e : Env} {s : State} {m : MethodId} {args : Array Value} {below : List Frame} {meth : Method} {c : Code} {A : Nat → Prop} {D : va_G} {K : Nat → ClassId} (a_self a_least : Nat → Nat) (X : gx p s m args c b_Md_close 2 R_Md w_Md_close D classes (tyK K) A) (hr : meth.sig.returnType = some .int) (hlk : meth.locks = false) (N : Nat) (r : Int32) (f_self : Nat → Nat → Int32) (s_self : Nat → Nat → Int32) (h : f_Md_close_99 N s_self = some (r, f_self)) : Gd p l e rm_Md_close s m args below meth c 0 0 (MQ below (sq D classes (tyK K) (some (.int r)) [wd_Md K a_self (a_least 0) f_self] A) args s 0 0 A) D classes A 2 99 [wd_Md K a_self (a_least 0) s_self] [(0, .ref (a_self 0))] [] := by
  unfold f_Md_close_99 at h
  refine gd_aload_n X d_Md_close_99 0 rfl ?_
  refine gd_dup X d_Md_close_100 rfl ?_
  refine gd_get X (ci := 7) (C := R_Md) (T := F_Md) (N := 36) (v := .int (s_self 0 4)) 0 0 rfl rfl rfl (in_Md _) 4 (by decide) (List.mem_cons_of_mem _ fl_Md_103) rfl rfl d_Md_close_101 ?_
  refine gd_iconst X (v := 1) d_Md_close_104 (by decide) ?_
  refine gd_iadd X d_Md_close_105 ?_
  obtain ⟨s_self_1, es_self_1, h⟩ := nm_e' h
  refine gd_put X (ci := 7) (C := R_Md) (T := F_Md) (N := 36) (ty := .int) (w' := [wd_Md K a_self (a_least 0) s_self_1]) 0 0 rfl rfl rfl (in_Md _) t_Md t_Md_ok n_Md 4 (by decide) (List.mem_cons_of_mem _ fl_Md_103) rfl rfl (by decide +kernel) rfl rfl (Nat.le_of_ble_eq_true rfl) d_Md_close_106 (by rw [es_self_1]; rfl) ?_
  refine gd_aload_n X d_Md_close_109 0 rfl ?_
  refine gd_iconst X (v := 0) d_Md_close_110 (by decide) ?_
  obtain ⟨s_self_2, es_self_2, h⟩ := nm_e' h
  refine gd_put X (ci := 7) (C := R_Md) (T := F_Md) (N := 36) (ty := .boolean) (w' := [wd_Md K a_self (a_least 0) s_self_2]) 0 0 rfl rfl rfl (in_Md _) t_Md t_Md_ok n_Md 14 (by decide) (List.mem_cons_of_mem _ fl_Md_95) rfl rfl (by decide +kernel) (by decide) (by decide) (Nat.le_of_ble_eq_true rfl) d_Md_close_111 (by rw [es_self_2]; rfl) ?_
  refine gd_aload_n X d_Md_close_114 0 rfl ?_
  refine gd_get X (ci := 7) (C := R_Md) (T := F_Md) (N := 36) (v := .int (s_self_2 0 4)) 0 0 rfl rfl rfl (in_Md _) 4 (by decide) (List.mem_cons_of_mem _ fl_Md_103) rfl rfl d_Md_close_115 ?_
  refine gd_iconst X (v := 1) d_Md_close_118 (by decide) ?_
  refine gd_isub X d_Md_close_119 ?_
  cases h
  exact gd_iret X hr hlk d_Md_close_120
def l_Md_close_63 (N : Nat) (kx99 : (Nat → Nat → Int32) → Option ((Int32) × (Nat → Nat → Int32))) : Nat → (Nat → Nat → Int32) → Int32 → Option ((Int32) × (Nat → Nat → Int32))
  | 0, _, _ => none
  | n + 1, s_self, v1 => f_Md_close_63 N (l_Md_close_63 N kx99 n) kx99 s_self v1
set_option maxHeartbeats 4000000 in
set_option maxRecDepth 100000 in
theorem tl_Md_close_63 {p : Program} {l : Launch} {e : Env} {s : State} {m : MethodId} {args : Array Value} {below : List Frame} {meth : Method} {c : Code} {A : Nat → Prop} {D : va_G} {K : Nat → ClassId} (a_self a_least : Nat → Nat) (X : gx p s m args c b_Md_close 2 R_Md w_Md_close D classes (tyK K) A) (hr : meth.sig.returnType = some .int) (hlk : meth.locks = false) (N : Nat) (r : Int32) (f_self : Nat → Nat → Int32) (kx99 : (Nat → Nat → Int32) → Option ((Int32) × (Nat → Nat → Int32))) (hkx99 : ∀ (s_self : Nat → Nat → Int32), kx99 s_self = some (r, f_self) → Gd p l e rm_Md_close s m args below meth c 0 0 (MQ below (sq D classes (tyK K) (some (.int r)) [wd_Md K a_self (a_least 0) f_self] A) args s 0 0 A) D classes A 2 99 [wd_Md K a_self (a_least 0) s_self] [(0, .ref (a_self 0))] []) : ∀ (n : Nat) (s_self : Nat → Nat → Int32) (v1 : Int32), l_Md_close_63 N kx99 n s_self v1 = some (r, f_self) → Gd p l e rm_Md_close s m args below meth c 0 0 (MQ below (sq D classes (tyK K) (some (.int r)) [wd_Md K a_self (a_least 0) f_self] A) args s 0 0 A) D classes A 2 63 [wd_Md K a_self (a_least 0) s_self] [(0, .ref (a_self 0)), (1, .int v1)] [] := by
  intro n
  induction n with
  | zero => intro s_self v1 h; have h : (none : Option ((Int32) × (Nat → Nat → Int32))) = some _ := h; cases h
  | succ n ih =>
    intro s_self v1 h
    exact t_Md_close_63 a_self a_least X hr hlk N r f_self s_self v1 (l_Md_close_63 N kx99 n) ih kx99 hkx99 h
def f_Md_close_0 (N : Nat) (s_self : Nat → Nat → Int32) : Option ((Int32) × (Nat → Nat → Int32)) :=
  nm (st2 s_self 0 0 0) fun s_self_1 =>
  if (s_self_1 0 5) = 0 then
    some (((-1)), s_self_1)
  else
    ck 30 31 <|
    if (s_self_1 3 (Int32.toNatClampNeg 30)) = 0 then
      some (((-1)), s_self_1)
    else
      nm (st2 s_self_1 0 5 0) fun s_self_5 =>
      ck 30 31 <|
      ck (s_self_5 0 4) 31 <| nm (st2 s_self_5 2 (Int32.toNatClampNeg (s_self_5 0 4)) (s_self_5 2 (Int32.toNatClampNeg 30))) fun s_self_8 =>
      ck 30 31 <|
      ck (s_self_8 0 4) 31 <| nm (st2 s_self_8 3 (Int32.toNatClampNeg (s_self_8 0 4)) (s_self_8 3 (Int32.toNatClampNeg 30))) fun s_self_11 =>
      l_Md_close_63 N (fun s_self => f_Md_close_99 N s_self) N s_self_11 0
set_option maxHeartbeats 4000000 in
set_option maxRecDepth 100000 in
theorem t_Md_close_0 {p : Program} {l : Launch} {e : Env} {s : State} {m : MethodId} {args : Array Value} {below : List Frame} {meth : Method} {c : Code} {A : Nat → Prop} {D : va_G} {K : Nat → ClassId} (a_self a_least : Nat → Nat) (X : gx p s m args c b_Md_close 2 R_Md w_Md_close D classes (tyK K) A) (hr : meth.sig.returnType = some .int) (hlk : meth.locks = false) (N : Nat) (r : Int32) (f_self : Nat → Nat → Int32) (s_self : Nat → Nat → Int32) (h : f_Md_close_0 N s_self = some (r, f_self)) : Gd p l e rm_Md_close s m args below meth c 0 0 (MQ below (sq D classes (tyK K) (some (.int r)) [wd_Md K a_self (a_least 0) f_self] A) args s 0 0 A) D classes A 2 0 [wd_Md K a_self (a_least 0) s_self] [(0, .ref (a_self 0))] [] := by
  unfold f_Md_close_0 at h
  refine gd_aload_n X d_Md_close_0 0 rfl ?_
  refine gd_iconst X (v := 0) d_Md_close_1 (by decide) ?_
  obtain ⟨s_self_1, es_self_1, h⟩ := nm_e' h
  refine gd_put X (ci := 7) (C := R_Md) (T := F_Md) (N := 36) (ty := .int) (w' := [wd_Md K a_self (a_least 0) s_self_1]) 0 0 rfl rfl rfl (in_Md _) t_Md t_Md_ok n_Md 0 (by decide) (List.mem_cons_of_mem _ fl_Md_86) rfl rfl (by decide +kernel) rfl rfl (Nat.le_of_ble_eq_true rfl) d_Md_close_2 (by rw [es_self_1]; rfl) ?_
  refine gd_aload_n X d_Md_close_5 0 rfl ?_
  refine gd_get X (ci := 7) (C := R_Md) (T := F_Md) (N := 36) (v := .int (s_self_1 0 5)) 0 0 rfl rfl rfl (in_Md _) 5 (by decide) (List.mem_cons_of_mem _ fl_Md_106) rfl rfl d_Md_close_6 ?_
  refine gd_if_eq X (tgt := 22) d_Md_close_9 (by decide) (fun c_2 => ?_) (fun c_2 => ?_)
  · replace h := it_p c_2 h
    refine gd_iconst X (v := (-1)) d_Md_close_22 (by decide) ?_
    cases h
    exact gd_iret X hr hlk d_Md_close_23
  · replace h := it_n c_2 h
    refine gd_aload_n X d_Md_close_12 0 rfl ?_
    refine gd_get X (ci := 7) (C := R_Md) (T := F_Md) (N := 36) (v := .ref (a_self 3)) 0 0 rfl rfl rfl (in_Md _) 7 (by decide) (List.mem_cons_of_mem _ fl_Md_16) rfl rfl d_Md_close_13 ?_
    refine gd_bipush X (v := 30) d_Md_close_16 (by decide) ?_
    obtain ⟨hi_3, h⟩ := ck_e h
    refine gd_iald X 0 3 0 rfl rfl rfl hi_3 d_Md_close_18 ?_
    refine gd_if_ne X (tgt := 24) d_Md_close_19 (by decide) (fun c_4 => ?_) (fun c_4 => ?_)
    · replace h := it_n c_4 h
      refine gd_aload_n X d_Md_close_24 0 rfl ?_
      refine gd_iconst X (v := 0) d_Md_close_25 (by decide) ?_
      obtain ⟨s_self_5, es_self_5, h⟩ := nm_e' h
      refine gd_put X (ci := 7) (C := R_Md) (T := F_Md) (N := 36) (ty := .boolean) (w' := [wd_Md K a_self (a_least 0) s_self_5]) 0 0 rfl rfl rfl (in_Md _) t_Md t_Md_ok n_Md 5 (by decide) (List.mem_cons_of_mem _ fl_Md_106) rfl rfl (by decide +kernel) (by decide) (by decide) (Nat.le_of_ble_eq_true rfl) d_Md_close_26 (by rw [es_self_5]; rfl) ?_
      refine gd_aload_n X d_Md_close_29 0 rfl ?_
      refine gd_get X (ci := 7) (C := R_Md) (T := F_Md) (N := 36) (v := .ref (a_self 2)) 0 0 rfl rfl rfl (in_Md _) 6 (by decide) (List.mem_cons_of_mem _ fl_Md_13) rfl rfl d_Md_close_30 ?_
      refine gd_aload_n X d_Md_close_33 0 rfl ?_
      refine gd_get X (ci := 7) (C := R_Md) (T := F_Md) (N := 36) (v := .int (s_self_5 0 4)) 0 0 rfl rfl rfl (in_Md _) 4 (by decide) (List.mem_cons_of_mem _ fl_Md_103) rfl rfl d_Md_close_34 ?_
      refine gd_aload_n X d_Md_close_37 0 rfl ?_
      refine gd_get X (ci := 7) (C := R_Md) (T := F_Md) (N := 36) (v := .ref (a_self 2)) 0 0 rfl rfl rfl (in_Md _) 6 (by decide) (List.mem_cons_of_mem _ fl_Md_13) rfl rfl d_Md_close_38 ?_
      refine gd_bipush X (v := 30) d_Md_close_41 (by decide) ?_
      obtain ⟨hi_6, h⟩ := ck_e h
      refine gd_iald X 0 2 0 rfl rfl rfl hi_6 d_Md_close_43 ?_
      obtain ⟨hi_7, h⟩ := ck_e h
      obtain ⟨s_self_8, es_self_8, h⟩ := nm_e' h
      refine gd_iast X (w' := [wd_Md K a_self (a_least 0) s_self_8]) 0 2 0 rfl rfl rfl hi_7 d_Md_close_44 (by rw [es_self_8]; rfl) ?_
      refine gd_aload_n X d_Md_close_45 0 rfl ?_
      refine gd_get X (ci := 7) (C := R_Md) (T := F_Md) (N := 36) (v := .ref (a_self 3)) 0 0 rfl rfl rfl (in_Md _) 7 (by decide) (List.mem_cons_of_mem _ fl_Md_16) rfl rfl d_Md_close_46 ?_
      refine gd_aload_n X d_Md_close_49 0 rfl ?_
      refine gd_get X (ci := 7) (C := R_Md) (T := F_Md) (N := 36) (v := .int (s_self_8 0 4)) 0 0 rfl rfl rfl (in_Md _) 4 (by decide) (List.mem_cons_of_mem _ fl_Md_103) rfl rfl d_Md_close_50 ?_
      refine gd_aload_n X d_Md_close_53 0 rfl ?_
      refine gd_get X (ci := 7) (C := R_Md) (T := F_Md) (N := 36) (v := .ref (a_self 3)) 0 0 rfl rfl rfl (in_Md _) 7 (by decide) (List.mem_cons_of_mem _ fl_Md_16) rfl rfl d_Md_close_54 ?_
      refine gd_bipush X (v := 30) d_Md_close_57 (by decide) ?_
      obtain ⟨hi_9, h⟩ := ck_e h
      refine gd_iald X 0 3 0 rfl rfl rfl hi_9 d_Md_close_59 ?_
      obtain ⟨hi_10, h⟩ := ck_e h
      obtain ⟨s_self_11, es_self_11, h⟩ := nm_e' h
      refine gd_iast X (w' := [wd_Md K a_self (a_least 0) s_self_11]) 0 3 0 rfl rfl rfl hi_10 d_Md_close_60 (by rw [es_self_11]; rfl) ?_
      refine gd_iconst X (v := 0) d_Md_close_61 (by decide) ?_
      refine gd_istore_n X (lv' := [(1, .int 0), (0, .ref (a_self 0))]) d_Md_close_62 rfl (by decide) rfl ?_
      refine gd_loc (lv' := [(0, .ref (a_self 0)), (1, .int 0)]) [1, 0] rfl ?_
      exact tl_Md_close_63 a_self a_least X hr hlk N r f_self (fun s_self => f_Md_close_99 N s_self) (fun s_self h => t_Md_close_99 a_self a_least X hr hlk N r f_self s_self h) N s_self_11 0 h
    · replace h := it_p c_4 h
      refine gd_iconst X (v := (-1)) d_Md_close_22 (by decide) ?_
      cases h
      exact gd_iret X hr hlk d_Md_close_23
def m_Md_close (N : Nat) (s_self : Nat → Nat → Int32) : Option ((Int32) × (Nat → Nat → Int32)) := f_Md_close_0 N s_self
set_option maxHeartbeats 4000000 in
set_option maxRecDepth 100000 in
theorem c_Md_close (l : Launch) (D : va_G) (K : Nat → ClassId) (a_self a_least : Nat → Nat) (N : Nat) (s_self : Nat → Nat → Int32) (r : Int32) (f_self : Nat → Nat → Int32) (h : m_Md_close N s_self = some (r, f_self)) : SMet l y_Md_close w_Md_close rm_Md_close D classes (tyK K) [.ref (a_self 0)] (some (.int r)) [wd_Md K a_self (a_least 0) s_self] [wd_Md K a_self (a_least 0) f_self] := by
  refine sm_of R_Md (by decide) rfl rfl (Nat.le_of_ble_eq_true rfl) ?_
  intro p e s m below meth c A X hr hlk
  refine gd_loc (lv' := [(0, .ref (a_self 0))]) [0] rfl ?_
  exact t_Md_close_0 a_self a_least X hr hlk N r f_self s_self h
abbrev b_Md_token : ByteArray := prog_10_method_11_code
def y_Md_token : MethodName := ⟨R_Md, "token", "(I)I"⟩
def w_Md_token : List Cond := .code y_Md_token b_Md_token 2 (some .int) :: TB
theorem k_Md_token : Cond.code y_Md_token b_Md_token 2 (some .int) ∈ TB := tb_of 866 (by decide +kernel) (by decide +kernel)
theorem d_Md_token_0 : decode b_Md_token 0 = .ok (.aload_n 0, 1) := by decide +kernel
theorem d_Md_token_1 : decode b_Md_token 1 = .ok (.iconst 0, 1) := by decide +kernel
theorem d_Md_token_2 : decode b_Md_token 2 = .ok (.putfield 86, 3) := by decide +kernel
theorem d_Md_token_5 : decode b_Md_token 5 = .ok (.aload_n 0, 1) := by decide +kernel
theorem d_Md_token_6 : decode b_Md_token 6 = .ok (.iload_n 1, 1) := by decide +kernel
theorem d_Md_token_7 : decode b_Md_token 7 = .ok (.invokevirtual 109, 3) := by decide +kernel
theorem d_Md_token_10 : decode b_Md_token 10 = .ok (.ifCond .eq 12, 3) := by decide +kernel
theorem d_Md_token_13 : decode b_Md_token 13 = .ok (.aload_n 0, 1) := by decide +kernel
theorem d_Md_token_14 : decode b_Md_token 14 = .ok (.getfield 116, 3) := by decide +kernel
theorem d_Md_token_17 : decode b_Md_token 17 = .ok (.bipush 12, 2) := by decide +kernel
theorem d_Md_token_19 : decode b_Md_token 19 = .ok (.if_icmp .ne 5, 3) := by decide +kernel
theorem d_Md_token_22 : decode b_Md_token 22 = .ok (.iconst (-1), 1) := by decide +kernel
theorem d_Md_token_23 : decode b_Md_token 23 = .ok (.ireturn, 1) := by decide +kernel
theorem d_Md_token_24 : decode b_Md_token 24 = .ok (.aload_n 0, 1) := by decide +kernel
theorem d_Md_token_25 : decode b_Md_token 25 = .ok (.getfield 22, 3) := by decide +kernel
theorem d_Md_token_28 : decode b_Md_token 28 = .ok (.aload_n 0, 1) := by decide +kernel
theorem d_Md_token_29 : decode b_Md_token 29 = .ok (.getfield 116, 3) := by decide +kernel
theorem d_Md_token_32 : decode b_Md_token 32 = .ok (.iload_n 1, 1) := by decide +kernel
theorem d_Md_token_33 : decode b_Md_token 33 = .ok (.iastore, 1) := by decide +kernel
theorem d_Md_token_34 : decode b_Md_token 34 = .ok (.aload_n 0, 1) := by decide +kernel
theorem d_Md_token_35 : decode b_Md_token 35 = .ok (.dup, 1) := by decide +kernel
theorem d_Md_token_36 : decode b_Md_token 36 = .ok (.getfield 116, 3) := by decide +kernel
theorem d_Md_token_39 : decode b_Md_token 39 = .ok (.iconst 1, 1) := by decide +kernel
theorem d_Md_token_40 : decode b_Md_token 40 = .ok (.iadd, 1) := by decide +kernel
theorem d_Md_token_41 : decode b_Md_token 41 = .ok (.putfield 116, 3) := by decide +kernel
theorem d_Md_token_44 : decode b_Md_token 44 = .ok (.aload_n 0, 1) := by decide +kernel
theorem d_Md_token_45 : decode b_Md_token 45 = .ok (.iconst 0, 1) := by decide +kernel
theorem d_Md_token_46 : decode b_Md_token 46 = .ok (.putfield 95, 3) := by decide +kernel
theorem d_Md_token_49 : decode b_Md_token 49 = .ok (.aload_n 0, 1) := by decide +kernel
theorem d_Md_token_50 : decode b_Md_token 50 = .ok (.getfield 116, 3) := by decide +kernel
theorem d_Md_token_53 : decode b_Md_token 53 = .ok (.ireturn, 1) := by decide +kernel
theorem fl_Md_116 : Cond.fieldLink R_Md 116 "RuleTreesModel" "length" "I" ∈ TB := tb_of 730 (by decide +kernel) (by decide +kernel)
theorem fl_Md_22 : Cond.fieldLink R_Md 22 "RuleTreesModel" "row" "[I" ∈ TB := tb_of 729 (by decide +kernel) (by decide +kernel)
abbrev rm_Md_token : Room := { frames := 1, cells := 0, slots := 0, locals := 21 }
def f_Md_token_0 (s_self : Nat → Nat → Int32) (v1 : Int32) : Option ((Int32) × (Nat → Nat → Int32)) :=
  nm (st2 s_self 0 0 0) fun s_self_1 =>
  bd1 (m_Md_isSymbol s_self_1 v1) fun r_2 =>
  if r_2 = 0 then
    some (((-1)), s_self_1)
  else
    if (s_self_1 0 10) = 12 then
      some (((-1)), s_self_1)
    else
      ck (s_self_1 0 10) 12 <| nm (st2 s_self_1 5 (Int32.toNatClampNeg (s_self_1 0 10)) v1) fun s_self_7 =>
      nm (st2 s_self_7 0 10 ((s_self_7 0 10) + 1)) fun s_self_8 =>
      nm (st2 s_self_8 0 14 0) fun s_self_9 =>
      some ((s_self_9 0 10), s_self_9)
set_option maxHeartbeats 4000000 in
set_option maxRecDepth 100000 in
theorem t_Md_token_0 {p : Program} {l : Launch} {e : Env} {s : State} {m : MethodId} {args : Array Value} {below : List Frame} {meth : Method} {c : Code} {A : Nat → Prop} {D : va_G} {K : Nat → ClassId} (a_self a_least : Nat → Nat) (X : gx p s m args c b_Md_token 2 R_Md w_Md_token D classes (tyK K) A) (hr : meth.sig.returnType = some .int) (hlk : meth.locks = false) (r : Int32) (f_self : Nat → Nat → Int32) (s_self : Nat → Nat → Int32) (v1 : Int32) (h : f_Md_token_0 s_self v1 = some (r, f_self)) : Gd p l e rm_Md_token s m args below meth c 0 0 (MQ below (sq D classes (tyK K) (some (.int r)) [wd_Md K a_self (a_least 0) f_self] A) args s 0 0 A) D classes A 2 0 [wd_Md K a_self (a_least 0) s_self] [(0, .ref (a_self 0)), (1, .int v1)] [] := by
  unfold f_Md_token_0 at h
  refine gd_aload_n X d_Md_token_0 0 rfl ?_
  refine gd_iconst X (v := 0) d_Md_token_1 (by decide) ?_
  obtain ⟨s_self_1, es_self_1, h⟩ := nm_e' h
  refine gd_put X (ci := 7) (C := R_Md) (T := F_Md) (N := 36) (ty := .int) (w' := [wd_Md K a_self (a_least 0) s_self_1]) 0 0 rfl rfl rfl (in_Md _) t_Md t_Md_ok n_Md 0 (by decide) (List.mem_cons_of_mem _ fl_Md_86) rfl rfl (by decide +kernel) rfl rfl (Nat.le_of_ble_eq_true rfl) d_Md_token_2 (by rw [es_self_1]; rfl) ?_
  refine gd_aload_n X d_Md_token_5 0 rfl ?_
  refine gd_iload_n X d_Md_token_6 1 rfl ?_
  obtain ⟨r_2, hc_3, h⟩ := bd1_e h
  refine gd_fI X (gd_V X (As := [.int v1]) (rest := []) (c_Md_isSymbol l D K a_self a_least s_self_1 v1 r_2 hc_3) 1 (gi_V ml_Md_109 u_Md_isSymbol) rfl ⟨rfl, rfl⟩ (by decide +kernel) ⟨by decide, by decide⟩ (ci := 7) rfl rfl rfl rfl rfl rfl (Nat.le_of_ble_eq_true rfl) ⟨Nat.zero_le _, Nat.zero_le _⟩ d_Md_token_7) ?_
  refine gd_if_eq X (tgt := 22) d_Md_token_10 (by decide) (fun c_4 => ?_) (fun c_4 => ?_)
  · replace h := it_p c_4 h
    refine gd_iconst X (v := (-1)) d_Md_token_22 (by decide) ?_
    cases h
    exact gd_iret X hr hlk d_Md_token_23
  · replace h := it_n c_4 h
    refine gd_aload_n X d_Md_token_13 0 rfl ?_
    refine gd_get X (ci := 7) (C := R_Md) (T := F_Md) (N := 36) (v := .int (s_self_1 0 10)) 0 0 rfl rfl rfl (in_Md _) 10 (by decide) (List.mem_cons_of_mem _ fl_Md_116) rfl rfl d_Md_token_14 ?_
    refine gd_bipush X (v := 12) d_Md_token_17 (by decide) ?_
    refine gd_icmp_ne X (tgt := 24) d_Md_token_19 (by decide) (fun c_5 => ?_) (fun c_5 => ?_)
    · replace h := it_n c_5 h
      refine gd_aload_n X d_Md_token_24 0 rfl ?_
      refine gd_get X (ci := 7) (C := R_Md) (T := F_Md) (N := 36) (v := .ref (a_self 5)) 0 0 rfl rfl rfl (in_Md _) 9 (by decide) (List.mem_cons_of_mem _ fl_Md_22) rfl rfl d_Md_token_25 ?_
      refine gd_aload_n X d_Md_token_28 0 rfl ?_
      refine gd_get X (ci := 7) (C := R_Md) (T := F_Md) (N := 36) (v := .int (s_self_1 0 10)) 0 0 rfl rfl rfl (in_Md _) 10 (by decide) (List.mem_cons_of_mem _ fl_Md_116) rfl rfl d_Md_token_29 ?_
      refine gd_iload_n X d_Md_token_32 1 rfl ?_
      obtain ⟨hi_6, h⟩ := ck_e h
      obtain ⟨s_self_7, es_self_7, h⟩ := nm_e' h
      refine gd_iast X (w' := [wd_Md K a_self (a_least 0) s_self_7]) 0 5 0 rfl rfl rfl hi_6 d_Md_token_33 (by rw [es_self_7]; rfl) ?_
      refine gd_aload_n X d_Md_token_34 0 rfl ?_
      refine gd_dup X d_Md_token_35 rfl ?_
      refine gd_get X (ci := 7) (C := R_Md) (T := F_Md) (N := 36) (v := .int (s_self_7 0 10)) 0 0 rfl rfl rfl (in_Md _) 10 (by decide) (List.mem_cons_of_mem _ fl_Md_116) rfl rfl d_Md_token_36 ?_
      refine gd_iconst X (v := 1) d_Md_token_39 (by decide) ?_
      refine gd_iadd X d_Md_token_40 ?_
      obtain ⟨s_self_8, es_self_8, h⟩ := nm_e' h
      refine gd_put X (ci := 7) (C := R_Md) (T := F_Md) (N := 36) (ty := .int) (w' := [wd_Md K a_self (a_least 0) s_self_8]) 0 0 rfl rfl rfl (in_Md _) t_Md t_Md_ok n_Md 10 (by decide) (List.mem_cons_of_mem _ fl_Md_116) rfl rfl (by decide +kernel) rfl rfl (Nat.le_of_ble_eq_true rfl) d_Md_token_41 (by rw [es_self_8]; rfl) ?_
      refine gd_aload_n X d_Md_token_44 0 rfl ?_
      refine gd_iconst X (v := 0) d_Md_token_45 (by decide) ?_
      obtain ⟨s_self_9, es_self_9, h⟩ := nm_e' h
      refine gd_put X (ci := 7) (C := R_Md) (T := F_Md) (N := 36) (ty := .boolean) (w' := [wd_Md K a_self (a_least 0) s_self_9]) 0 0 rfl rfl rfl (in_Md _) t_Md t_Md_ok n_Md 14 (by decide) (List.mem_cons_of_mem _ fl_Md_95) rfl rfl (by decide +kernel) (by decide) (by decide) (Nat.le_of_ble_eq_true rfl) d_Md_token_46 (by rw [es_self_9]; rfl) ?_
      refine gd_aload_n X d_Md_token_49 0 rfl ?_
      refine gd_get X (ci := 7) (C := R_Md) (T := F_Md) (N := 36) (v := .int (s_self_9 0 10)) 0 0 rfl rfl rfl (in_Md _) 10 (by decide) (List.mem_cons_of_mem _ fl_Md_116) rfl rfl d_Md_token_50 ?_
      cases h
      exact gd_iret X hr hlk d_Md_token_53
    · replace h := it_p c_5 h
      refine gd_iconst X (v := (-1)) d_Md_token_22 (by decide) ?_
      cases h
      exact gd_iret X hr hlk d_Md_token_23
def m_Md_token (s_self : Nat → Nat → Int32) (v1 : Int32) : Option ((Int32) × (Nat → Nat → Int32)) := f_Md_token_0 s_self v1
set_option maxHeartbeats 4000000 in
set_option maxRecDepth 100000 in
theorem c_Md_token (l : Launch) (D : va_G) (K : Nat → ClassId) (a_self a_least : Nat → Nat) (s_self : Nat → Nat → Int32) (v1 : Int32) (r : Int32) (f_self : Nat → Nat → Int32) (h : m_Md_token s_self v1 = some (r, f_self)) : SMet l y_Md_token w_Md_token rm_Md_token D classes (tyK K) [.ref (a_self 0), .int v1] (some (.int r)) [wd_Md K a_self (a_least 0) s_self] [wd_Md K a_self (a_least 0) f_self] := by
  refine sm_of R_Md (by decide) rfl rfl (Nat.le_of_ble_eq_true rfl) ?_
  intro p e s m below meth c A X hr hlk
  refine gd_loc (lv' := [(0, .ref (a_self 0)), (1, .int v1)]) [0, 1] rfl ?_
  exact t_Md_token_0 a_self a_least X hr hlk r f_self s_self v1 h
abbrev b_Md_drop : ByteArray := prog_10_method_12_code
def y_Md_drop : MethodName := ⟨R_Md, "drop", "()I"⟩
def w_Md_drop : List Cond := .code y_Md_drop b_Md_drop 2 (some .int) :: TB
theorem k_Md_drop : Cond.code y_Md_drop b_Md_drop 2 (some .int) ∈ TB := tb_of 870 (by decide +kernel) (by decide +kernel)
theorem d_Md_drop_0 : decode b_Md_drop 0 = .ok (.aload_n 0, 1) := by decide +kernel
theorem d_Md_drop_1 : decode b_Md_drop 1 = .ok (.iconst 0, 1) := by decide +kernel
theorem d_Md_drop_2 : decode b_Md_drop 2 = .ok (.putfield 86, 3) := by decide +kernel
theorem d_Md_drop_5 : decode b_Md_drop 5 = .ok (.aload_n 0, 1) := by decide +kernel
theorem d_Md_drop_6 : decode b_Md_drop 6 = .ok (.getfield 116, 3) := by decide +kernel
theorem d_Md_drop_9 : decode b_Md_drop 9 = .ok (.istore_n 1, 1) := by decide +kernel
theorem d_Md_drop_10 : decode b_Md_drop 10 = .ok (.aload_n 0, 1) := by decide +kernel
theorem d_Md_drop_11 : decode b_Md_drop 11 = .ok (.iconst 0, 1) := by decide +kernel
theorem d_Md_drop_12 : decode b_Md_drop 12 = .ok (.putfield 116, 3) := by decide +kernel
theorem d_Md_drop_15 : decode b_Md_drop 15 = .ok (.aload_n 0, 1) := by decide +kernel
theorem d_Md_drop_16 : decode b_Md_drop 16 = .ok (.iconst 0, 1) := by decide +kernel
theorem d_Md_drop_17 : decode b_Md_drop 17 = .ok (.putfield 95, 3) := by decide +kernel
theorem d_Md_drop_20 : decode b_Md_drop 20 = .ok (.iload_n 1, 1) := by decide +kernel
theorem d_Md_drop_21 : decode b_Md_drop 21 = .ok (.ireturn, 1) := by decide +kernel
abbrev rm_Md_drop : Room := { frames := 0, cells := 0, slots := 0, locals := 0 }
def f_Md_drop_0 (s_self : Nat → Nat → Int32) : Option ((Int32) × (Nat → Nat → Int32)) :=
  nm (st2 s_self 0 0 0) fun s_self_1 =>
  nm (s_self_1 0 10) fun v1_2 =>
  nm (st2 s_self_1 0 10 0) fun s_self_3 =>
  nm (st2 s_self_3 0 14 0) fun s_self_4 =>
  some ((v1_2), s_self_4)
set_option maxHeartbeats 4000000 in
set_option maxRecDepth 100000 in
theorem t_Md_drop_0 {p : Program} {l : Launch} {e : Env} {s : State} {m : MethodId} {args : Array Value} {below : List Frame} {meth : Method} {c : Code} {A : Nat → Prop} {D : va_G} {K : Nat → ClassId} (a_self a_least : Nat → Nat) (X : gx p s m args c b_Md_drop 2 R_Md w_Md_drop D classes (tyK K) A) (hr : meth.sig.returnType = some .int) (hlk : meth.locks = false) (r : Int32) (f_self : Nat → Nat → Int32) (s_self : Nat → Nat → Int32) (h : f_Md_drop_0 s_self = some (r, f_self)) : Gd p l e rm_Md_drop s m args below meth c 0 0 (MQ below (sq D classes (tyK K) (some (.int r)) [wd_Md K a_self (a_least 0) f_self] A) args s 0 0 A) D classes A 2 0 [wd_Md K a_self (a_least 0) s_self] [(0, .ref (a_self 0))] [] := by
  unfold f_Md_drop_0 at h
  refine gd_aload_n X d_Md_drop_0 0 rfl ?_
  refine gd_iconst X (v := 0) d_Md_drop_1 (by decide) ?_
  obtain ⟨s_self_1, es_self_1, h⟩ := nm_e' h
  refine gd_put X (ci := 7) (C := R_Md) (T := F_Md) (N := 36) (ty := .int) (w' := [wd_Md K a_self (a_least 0) s_self_1]) 0 0 rfl rfl rfl (in_Md _) t_Md t_Md_ok n_Md 0 (by decide) (List.mem_cons_of_mem _ fl_Md_86) rfl rfl (by decide +kernel) rfl rfl (Nat.le_of_ble_eq_true rfl) d_Md_drop_2 (by rw [es_self_1]; rfl) ?_
  refine gd_aload_n X d_Md_drop_5 0 rfl ?_
  refine gd_get X (ci := 7) (C := R_Md) (T := F_Md) (N := 36) (v := .int (s_self_1 0 10)) 0 0 rfl rfl rfl (in_Md _) 10 (by decide) (List.mem_cons_of_mem _ fl_Md_116) rfl rfl d_Md_drop_6 ?_
  obtain ⟨v1_2, ev1_2, h⟩ := nm_e' h
  refine gd_topi ev1_2 ?_
  refine gd_istore_n X (lv' := [(1, .int v1_2), (0, .ref (a_self 0))]) d_Md_drop_9 rfl (by decide) rfl ?_
  refine gd_aload_n X d_Md_drop_10 1 rfl ?_
  refine gd_iconst X (v := 0) d_Md_drop_11 (by decide) ?_
  obtain ⟨s_self_3, es_self_3, h⟩ := nm_e' h
  refine gd_put X (ci := 7) (C := R_Md) (T := F_Md) (N := 36) (ty := .int) (w' := [wd_Md K a_self (a_least 0) s_self_3]) 0 0 rfl rfl rfl (in_Md _) t_Md t_Md_ok n_Md 10 (by decide) (List.mem_cons_of_mem _ fl_Md_116) rfl rfl (by decide +kernel) rfl rfl (Nat.le_of_ble_eq_true rfl) d_Md_drop_12 (by rw [es_self_3]; rfl) ?_
  refine gd_aload_n X d_Md_drop_15 1 rfl ?_
  refine gd_iconst X (v := 0) d_Md_drop_16 (by decide) ?_
  obtain ⟨s_self_4, es_self_4, h⟩ := nm_e' h
  refine gd_put X (ci := 7) (C := R_Md) (T := F_Md) (N := 36) (ty := .boolean) (w' := [wd_Md K a_self (a_least 0) s_self_4]) 0 0 rfl rfl rfl (in_Md _) t_Md t_Md_ok n_Md 14 (by decide) (List.mem_cons_of_mem _ fl_Md_95) rfl rfl (by decide +kernel) (by decide) (by decide) (Nat.le_of_ble_eq_true rfl) d_Md_drop_17 (by rw [es_self_4]; rfl) ?_
  refine gd_iload_n X d_Md_drop_20 0 rfl ?_
  cases h
  exact gd_iret X hr hlk d_Md_drop_21
def m_Md_drop (s_self : Nat → Nat → Int32) : Option ((Int32) × (Nat → Nat → Int32)) := f_Md_drop_0 s_self
set_option maxHeartbeats 4000000 in
set_option maxRecDepth 100000 in
theorem c_Md_drop (l : Launch) (D : va_G) (K : Nat → ClassId) (a_self a_least : Nat → Nat) (s_self : Nat → Nat → Int32) (r : Int32) (f_self : Nat → Nat → Int32) (h : m_Md_drop s_self = some (r, f_self)) : SMet l y_Md_drop w_Md_drop rm_Md_drop D classes (tyK K) [.ref (a_self 0)] (some (.int r)) [wd_Md K a_self (a_least 0) s_self] [wd_Md K a_self (a_least 0) f_self] := by
  refine sm_of R_Md (by decide) rfl rfl (Nat.le_of_ble_eq_true rfl) ?_
  intro p e s m below meth c A X hr hlk
  refine gd_loc (lv' := [(0, .ref (a_self 0))]) [0] rfl ?_
  exact t_Md_drop_0 a_self a_least X hr hlk r f_self s_self h
abbrev b_Md_cellOf : ByteArray := prog_10_method_13_code
def y_Md_cellOf : MethodName := ⟨R_Md, "cellOf", "(III)I"⟩
def w_Md_cellOf : List Cond := .code y_Md_cellOf b_Md_cellOf 3 (some .int) :: TB
theorem k_Md_cellOf : Cond.code y_Md_cellOf b_Md_cellOf 3 (some .int) ∈ TB := tb_of 893 (by decide +kernel) (by decide +kernel)
theorem d_Md_cellOf_0 : decode b_Md_cellOf 0 = .ok (.bipush 12, 2) := by decide +kernel
theorem d_Md_cellOf_2 : decode b_Md_cellOf 2 = .ok (.iload_n 0, 1) := by decide +kernel
theorem d_Md_cellOf_3 : decode b_Md_cellOf 3 = .ok (.imul, 1) := by decide +kernel
theorem d_Md_cellOf_4 : decode b_Md_cellOf 4 = .ok (.iload_n 1, 1) := by decide +kernel
theorem d_Md_cellOf_5 : decode b_Md_cellOf 5 = .ok (.iadd, 1) := by decide +kernel
theorem d_Md_cellOf_6 : decode b_Md_cellOf 6 = .ok (.bipush 13, 2) := by decide +kernel
theorem d_Md_cellOf_8 : decode b_Md_cellOf 8 = .ok (.imul, 1) := by decide +kernel
theorem d_Md_cellOf_9 : decode b_Md_cellOf 9 = .ok (.iload_n 2, 1) := by decide +kernel
theorem d_Md_cellOf_10 : decode b_Md_cellOf 10 = .ok (.iadd, 1) := by decide +kernel
theorem d_Md_cellOf_11 : decode b_Md_cellOf 11 = .ok (.ireturn, 1) := by decide +kernel
abbrev rm_Md_cellOf : Room := { frames := 0, cells := 0, slots := 0, locals := 0 }
def f_Md_cellOf_0 (v0 v1 v2 : Int32) : Option ((Int32)) :=
  some ((((12 * v0) + v1) * 13) + v2)
set_option maxHeartbeats 4000000 in
set_option maxRecDepth 100000 in
theorem t_Md_cellOf_0 {p : Program} {l : Launch} {e : Env} {s : State} {m : MethodId} {args : Array Value} {below : List Frame} {meth : Method} {c : Code} {A : Nat → Prop} {D : va_G} {K : Nat → ClassId} (X : gx p s m args c b_Md_cellOf 3 R_Md w_Md_cellOf D classes (tyK K) A) (hr : meth.sig.returnType = some .int) (hlk : meth.locks = false) (r : Int32) (v0 v1 v2 : Int32) (h : f_Md_cellOf_0 v0 v1 v2 = some r) : Gd p l e rm_Md_cellOf s m args below meth c 0 0 (MQ below (sq D classes (tyK K) (some (.int r)) ([] : List va_W) A) args s 0 0 A) D classes A 3 0 ([] : List va_W) [(0, .int v0), (1, .int v1), (2, .int v2)] [] := by
  unfold f_Md_cellOf_0 at h
  refine gd_bipush X (v := 12) d_Md_cellOf_0 (by decide) ?_
  refine gd_iload_n X d_Md_cellOf_2 0 rfl ?_
  refine gd_imul X d_Md_cellOf_3 ?_
  refine gd_iload_n X d_Md_cellOf_4 1 rfl ?_
  refine gd_iadd X d_Md_cellOf_5 ?_
  refine gd_bipush X (v := 13) d_Md_cellOf_6 (by decide) ?_
  refine gd_imul X d_Md_cellOf_8 ?_
  refine gd_iload_n X d_Md_cellOf_9 2 rfl ?_
  refine gd_iadd X d_Md_cellOf_10 ?_
  cases h
  exact gd_iret X hr hlk d_Md_cellOf_11
def m_Md_cellOf (v0 v1 v2 : Int32) : Option ((Int32)) := f_Md_cellOf_0 v0 v1 v2
set_option maxHeartbeats 4000000 in
set_option maxRecDepth 100000 in
theorem c_Md_cellOf (l : Launch) (D : va_G) (K : Nat → ClassId) (v0 v1 v2 : Int32) (r : Int32) (h : m_Md_cellOf v0 v1 v2 = some r) : SMet l y_Md_cellOf w_Md_cellOf rm_Md_cellOf D classes (tyK K) [.int v0, .int v1, .int v2] (some (.int r)) ([] : List va_W) ([] : List va_W) := by
  refine sm_of R_Md (by decide) rfl rfl (Nat.le_of_ble_eq_true rfl) ?_
  intro p e s m below meth c A X hr hlk
  refine gd_loc (lv' := [(0, .int v0), (1, .int v1), (2, .int v2)]) [0, 1, 2] rfl ?_
  exact t_Md_cellOf_0 X hr hlk r v0 v1 v2 h
