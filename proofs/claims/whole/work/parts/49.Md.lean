abbrev b_Md_grow : ByteArray := prog_10_method_45_code
def y_Md_grow : MethodName := ⟨R_Md, "grow", "(I)I"⟩
def w_Md_grow : List Cond := .code y_Md_grow b_Md_grow 4 (some .int) :: TB
theorem k_Md_grow : Cond.code y_Md_grow b_Md_grow 4 (some .int) ∈ TB := tb_of 977 (by decide +kernel) (by decide +kernel)
theorem d_Md_grow_0 : decode b_Md_grow 0 = .ok (.aload_n 0, 1) := by decide +kernel
theorem d_Md_grow_1 : decode b_Md_grow 1 = .ok (.iconst 0, 1) := by decide +kernel
theorem d_Md_grow_2 : decode b_Md_grow 2 = .ok (.putfield 86, 3) := by decide +kernel
theorem d_Md_grow_5 : decode b_Md_grow 5 = .ok (.aload_n 0, 1) := by decide +kernel
theorem d_Md_grow_6 : decode b_Md_grow 6 = .ok (.iload_n 1, 1) := by decide +kernel
theorem d_Md_grow_7 : decode b_Md_grow 7 = .ok (.invokevirtual 99, 3) := by decide +kernel
theorem d_Md_grow_10 : decode b_Md_grow 10 = .ok (.ifCond .ne 5, 3) := by decide +kernel
theorem d_Md_grow_13 : decode b_Md_grow 13 = .ok (.iconst (-1), 1) := by decide +kernel
theorem d_Md_grow_14 : decode b_Md_grow 14 = .ok (.ireturn, 1) := by decide +kernel
theorem d_Md_grow_15 : decode b_Md_grow 15 = .ok (.aload_n 0, 1) := by decide +kernel
theorem d_Md_grow_16 : decode b_Md_grow 16 = .ok (.iload_n 1, 1) := by decide +kernel
theorem d_Md_grow_17 : decode b_Md_grow 17 = .ok (.invokevirtual 216, 3) := by decide +kernel
theorem d_Md_grow_20 : decode b_Md_grow 20 = .ok (.istore_n 2, 1) := by decide +kernel
theorem d_Md_grow_21 : decode b_Md_grow 21 = .ok (.iload_n 2, 1) := by decide +kernel
theorem d_Md_grow_22 : decode b_Md_grow 22 = .ok (.ifCond .le 5, 3) := by decide +kernel
theorem d_Md_grow_25 : decode b_Md_grow 25 = .ok (.iload_n 2, 1) := by decide +kernel
theorem d_Md_grow_26 : decode b_Md_grow 26 = .ok (.ireturn, 1) := by decide +kernel
theorem d_Md_grow_27 : decode b_Md_grow 27 = .ok (.aload_n 0, 1) := by decide +kernel
theorem d_Md_grow_28 : decode b_Md_grow 28 = .ok (.iconst 0, 1) := by decide +kernel
theorem d_Md_grow_29 : decode b_Md_grow 29 = .ok (.putfield 207, 3) := by decide +kernel
theorem d_Md_grow_32 : decode b_Md_grow 32 = .ok (.aload_n 0, 1) := by decide +kernel
theorem d_Md_grow_33 : decode b_Md_grow 33 = .ok (.getfield 198, 3) := by decide +kernel
theorem d_Md_grow_36 : decode b_Md_grow 36 = .ok (.iconst 1, 1) := by decide +kernel
theorem d_Md_grow_37 : decode b_Md_grow 37 = .ok (.isub, 1) := by decide +kernel
theorem d_Md_grow_38 : decode b_Md_grow 38 = .ok (.istore_n 3, 1) := by decide +kernel
theorem d_Md_grow_39 : decode b_Md_grow 39 = .ok (.iload_n 3, 1) := by decide +kernel
theorem d_Md_grow_40 : decode b_Md_grow 40 = .ok (.ifCond .lt 19, 3) := by decide +kernel
theorem d_Md_grow_43 : decode b_Md_grow 43 = .ok (.aload_n 0, 1) := by decide +kernel
theorem d_Md_grow_44 : decode b_Md_grow 44 = .ok (.aload_n 0, 1) := by decide +kernel
theorem d_Md_grow_45 : decode b_Md_grow 45 = .ok (.getfield 25, 3) := by decide +kernel
theorem d_Md_grow_48 : decode b_Md_grow 48 = .ok (.iload_n 3, 1) := by decide +kernel
theorem d_Md_grow_49 : decode b_Md_grow 49 = .ok (.iaload, 1) := by decide +kernel
theorem d_Md_grow_50 : decode b_Md_grow 50 = .ok (.invokevirtual 219, 3) := by decide +kernel
theorem d_Md_grow_53 : decode b_Md_grow 53 = .ok (.iinc 3 (-1), 3) := by decide +kernel
theorem d_Md_grow_56 : decode b_Md_grow 56 = .ok (.goto (-17), 3) := by decide +kernel
theorem d_Md_grow_59 : decode b_Md_grow 59 = .ok (.aload_n 0, 1) := by decide +kernel
theorem d_Md_grow_60 : decode b_Md_grow 60 = .ok (.getfield 76, 3) := by decide +kernel
theorem d_Md_grow_63 : decode b_Md_grow 63 = .ok (.iconst 0, 1) := by decide +kernel
theorem d_Md_grow_64 : decode b_Md_grow 64 = .ok (.iaload, 1) := by decide +kernel
theorem d_Md_grow_65 : decode b_Md_grow 65 = .ok (.bipush 12, 2) := by decide +kernel
theorem d_Md_grow_67 : decode b_Md_grow 67 = .ok (.if_icmp .le 5, 3) := by decide +kernel
theorem d_Md_grow_70 : decode b_Md_grow 70 = .ok (.iconst 5, 1) := by decide +kernel
theorem d_Md_grow_71 : decode b_Md_grow 71 = .ok (.ireturn, 1) := by decide +kernel
theorem d_Md_grow_72 : decode b_Md_grow 72 = .ok (.aload_n 0, 1) := by decide +kernel
theorem d_Md_grow_73 : decode b_Md_grow 73 = .ok (.aload_n 0, 1) := by decide +kernel
theorem d_Md_grow_74 : decode b_Md_grow 74 = .ok (.getfield 76, 3) := by decide +kernel
theorem d_Md_grow_77 : decode b_Md_grow 77 = .ok (.iconst 0, 1) := by decide +kernel
theorem d_Md_grow_78 : decode b_Md_grow 78 = .ok (.iaload, 1) := by decide +kernel
theorem d_Md_grow_79 : decode b_Md_grow 79 = .ok (.putfield 116, 3) := by decide +kernel
theorem d_Md_grow_82 : decode b_Md_grow 82 = .ok (.iconst 0, 1) := by decide +kernel
theorem d_Md_grow_83 : decode b_Md_grow 83 = .ok (.istore_n 3, 1) := by decide +kernel
theorem d_Md_grow_84 : decode b_Md_grow 84 = .ok (.iload_n 3, 1) := by decide +kernel
theorem d_Md_grow_85 : decode b_Md_grow 85 = .ok (.aload_n 0, 1) := by decide +kernel
theorem d_Md_grow_86 : decode b_Md_grow 86 = .ok (.getfield 116, 3) := by decide +kernel
theorem d_Md_grow_89 : decode b_Md_grow 89 = .ok (.if_icmp .ge 21, 3) := by decide +kernel
theorem d_Md_grow_92 : decode b_Md_grow 92 = .ok (.aload_n 0, 1) := by decide +kernel
theorem d_Md_grow_93 : decode b_Md_grow 93 = .ok (.getfield 22, 3) := by decide +kernel
theorem d_Md_grow_96 : decode b_Md_grow 96 = .ok (.iload_n 3, 1) := by decide +kernel
theorem d_Md_grow_97 : decode b_Md_grow 97 = .ok (.aload_n 0, 1) := by decide +kernel
theorem d_Md_grow_98 : decode b_Md_grow 98 = .ok (.getfield 73, 3) := by decide +kernel
theorem d_Md_grow_101 : decode b_Md_grow 101 = .ok (.iload_n 3, 1) := by decide +kernel
theorem d_Md_grow_102 : decode b_Md_grow 102 = .ok (.iaload, 1) := by decide +kernel
theorem d_Md_grow_103 : decode b_Md_grow 103 = .ok (.iastore, 1) := by decide +kernel
theorem d_Md_grow_104 : decode b_Md_grow 104 = .ok (.iinc 3 1, 3) := by decide +kernel
theorem d_Md_grow_107 : decode b_Md_grow 107 = .ok (.goto (-23), 3) := by decide +kernel
theorem d_Md_grow_110 : decode b_Md_grow 110 = .ok (.aload_n 0, 1) := by decide +kernel
theorem d_Md_grow_111 : decode b_Md_grow 111 = .ok (.iconst 0, 1) := by decide +kernel
theorem d_Md_grow_112 : decode b_Md_grow 112 = .ok (.putfield 95, 3) := by decide +kernel
theorem d_Md_grow_115 : decode b_Md_grow 115 = .ok (.iconst 0, 1) := by decide +kernel
theorem d_Md_grow_116 : decode b_Md_grow 116 = .ok (.ireturn, 1) := by decide +kernel
theorem ml_Md_219 : Cond.methodLink R_Md 219 ⟨"RuleTreesModel", "makeRow", "(I)V"⟩ ∈ TB := tb_of 990 (by decide +kernel) (by decide +kernel)
theorem u_Md_makeRow : (Cond.instanceMethod y_Md_makeRow ∈ TB ∧ Cond.selects R_Md y_Md_makeRow y_Md_makeRow ∈ TB) ∧ Cond.initialized R_Md ∈ TB ∧ Cond.code y_Md_makeRow b_Md_makeRow 8 none ∈ TB := ⟨⟨(tb_of 992 (by decide +kernel) (by decide +kernel)), (tb_of 58 (by decide +kernel) (by decide +kernel))⟩, (tb_of 70 (by decide +kernel) (by decide +kernel)), k_Md_makeRow⟩
theorem ml_Md_216 : Cond.methodLink R_Md 216 ⟨"RuleTreesModel", "fits", "(I)I"⟩ ∈ TB := tb_of 978 (by decide +kernel) (by decide +kernel)
theorem u_Md_fits : (Cond.instanceMethod y_Md_fits ∈ TB ∧ Cond.selects R_Md y_Md_fits y_Md_fits ∈ TB) ∧ Cond.initialized R_Md ∈ TB ∧ Cond.code y_Md_fits b_Md_fits 6 (some .int) ∈ TB := ⟨⟨(tb_of 980 (by decide +kernel) (by decide +kernel)), (tb_of 55 (by decide +kernel) (by decide +kernel))⟩, (tb_of 70 (by decide +kernel) (by decide +kernel)), k_Md_fits⟩
abbrev rm_Md_grow : Room := { frames := 4, cells := 0, slots := 0, locals := 101 }
def f_Md_grow_39 (N : Nat) (kb : (Nat → Nat → Int32) → Int32 → Option ((Int32) × (Nat → Nat → Int32))) (kx59 : (Nat → Nat → Int32) → Option ((Int32) × (Nat → Nat → Int32))) (s_self : Nat → Nat → Int32) (v3 : Int32) : Option ((Int32) × (Nat → Nat → Int32)) :=
  if v3 < 0 then
    kx59 s_self
  else
    ck v3 200 <|
    bd1 (m_Md_makeRow N s_self (s_self 6 (Int32.toNatClampNeg v3))) fun s_self_3 =>
    nm (v3 + (-1)) fun v3_5 =>
    kb s_self_3 v3_5
set_option maxHeartbeats 4000000 in
set_option maxRecDepth 100000 in
theorem t_Md_grow_39 {p : Program} {l : Launch} {e : Env} {s : State} {m : MethodId} {args : Array Value} {below : List Frame} {meth : Method} {c : Code} {A : Nat → Prop} {D : va_G} {K : Nat → ClassId} (a_self a_least : Nat → Nat) (X : gx p s m args c b_Md_grow 4 R_Md w_Md_grow D classes (tyK K) A) (hr : meth.sig.returnType = some .int) (hlk : meth.locks = false) (N : Nat) (r : Int32) (f_self : Nat → Nat → Int32) (s_self : Nat → Nat → Int32) (v3 : Int32) (kb : (Nat → Nat → Int32) → Int32 → Option ((Int32) × (Nat → Nat → Int32))) (hkb : ∀ (s_self : Nat → Nat → Int32) (v3 : Int32), kb s_self v3 = some (r, f_self) → Gd p l e rm_Md_grow s m args below meth c 0 0 (MQ below (sq D classes (tyK K) (some (.int r)) [wd_Md K a_self (a_least 0) f_self] A) args s 0 0 A) D classes A 4 39 [wd_Md K a_self (a_least 0) s_self] [(0, .ref (a_self 0)), (3, .int v3)] []) (kx59 : (Nat → Nat → Int32) → Option ((Int32) × (Nat → Nat → Int32))) (hkx59 : ∀ (s_self : Nat → Nat → Int32), kx59 s_self = some (r, f_self) → Gd p l e rm_Md_grow s m args below meth c 0 0 (MQ below (sq D classes (tyK K) (some (.int r)) [wd_Md K a_self (a_least 0) f_self] A) args s 0 0 A) D classes A 4 59 [wd_Md K a_self (a_least 0) s_self] [(0, .ref (a_self 0))] []) (h : f_Md_grow_39 N kb kx59 s_self v3 = some (r, f_self)) : Gd p l e rm_Md_grow s m args below meth c 0 0 (MQ below (sq D classes (tyK K) (some (.int r)) [wd_Md K a_self (a_least 0) f_self] A) args s 0 0 A) D classes A 4 39 [wd_Md K a_self (a_least 0) s_self] [(0, .ref (a_self 0)), (3, .int v3)] [] := by
  unfold f_Md_grow_39 at h
  refine gd_iload_n X d_Md_grow_39 1 rfl ?_
  refine gd_if_lt X (tgt := 59) d_Md_grow_40 (by decide) (fun c_1 => ?_) (fun c_1 => ?_)
  · replace h := it_p c_1 h
    refine gd_loc (lv' := [(0, .ref (a_self 0))]) [0] rfl ?_
    exact hkx59 s_self h
  · replace h := it_n c_1 h
    refine gd_aload_n X d_Md_grow_43 0 rfl ?_
    refine gd_aload_n X d_Md_grow_44 0 rfl ?_
    refine gd_get X (ci := 7) (C := R_Md) (T := F_Md) (N := 36) (v := .ref (a_self 6)) 0 0 rfl rfl rfl (in_Md _) 11 (by decide) (List.mem_cons_of_mem _ fl_Md_25) rfl rfl d_Md_grow_45 ?_
    refine gd_iload_n X d_Md_grow_48 1 rfl ?_
    obtain ⟨hi_2, h⟩ := ck_e h
    refine gd_iald X 0 6 0 rfl rfl rfl hi_2 d_Md_grow_49 ?_
    obtain ⟨s_self_3, hc_4, h⟩ := bd1_e h
    refine gd_fv X (w1 := [wd_Md K a_self (a_least 0) s_self_3]) (gd_V X (As := [.int (s_self 6 (Int32.toNatClampNeg v3))]) (rest := []) (c_Md_makeRow l D K a_self a_least N s_self (s_self 6 (Int32.toNatClampNeg v3)) s_self_3 hc_4) 1 (gi_V ml_Md_219 u_Md_makeRow) rfl ⟨rfl, rfl⟩ (by decide +kernel) ⟨by decide, by decide⟩ (ci := 7) rfl rfl rfl rfl rfl rfl (Nat.le_of_ble_eq_true rfl) ⟨Nat.zero_le _, Nat.zero_le _⟩ d_Md_grow_50) ?_
    obtain ⟨v3_5, ev3_5, h⟩ := nm_e' h
    refine gd_iinc X (v := v3_5) (lv' := [(3, .int v3_5), (0, .ref (a_self 0))]) d_Md_grow_53 (k := 1) rfl (by rw [ev3_5, show Int32.ofInt (-1) = (-1) from by decide]) (by decide) rfl ?_
    refine gd_goto X (tgt := 39) d_Md_grow_56 (by decide) ?_
    refine gd_loc (lv' := [(0, .ref (a_self 0)), (3, .int v3_5)]) [1, 0] rfl ?_
    exact hkb s_self_3 v3_5 h
def f_Md_grow_84 (N : Nat) (kb : (Nat → Nat → Int32) → Int32 → Option ((Int32) × (Nat → Nat → Int32))) (kx110 : (Nat → Nat → Int32) → Option ((Int32) × (Nat → Nat → Int32))) (s_self : Nat → Nat → Int32) (v3 : Int32) : Option ((Int32) × (Nat → Nat → Int32)) :=
  if (s_self 0 10) ≤ v3 then
    kx110 s_self
  else
    ck v3 2600 <|
    ck v3 12 <| nm (st2 s_self 5 (Int32.toNatClampNeg v3) (s_self 20 (Int32.toNatClampNeg v3))) fun s_self_4 =>
    nm (v3 + 1) fun v3_5 =>
    kb s_self_4 v3_5
set_option maxHeartbeats 4000000 in
set_option maxRecDepth 100000 in
theorem t_Md_grow_84 {p : Program} {l : Launch} {e : Env} {s : State} {m : MethodId} {args : Array Value} {below : List Frame} {meth : Method} {c : Code} {A : Nat → Prop} {D : va_G} {K : Nat → ClassId} (a_self a_least : Nat → Nat) (X : gx p s m args c b_Md_grow 4 R_Md w_Md_grow D classes (tyK K) A) (hr : meth.sig.returnType = some .int) (hlk : meth.locks = false) (N : Nat) (r : Int32) (f_self : Nat → Nat → Int32) (s_self : Nat → Nat → Int32) (v3 : Int32) (kb : (Nat → Nat → Int32) → Int32 → Option ((Int32) × (Nat → Nat → Int32))) (hkb : ∀ (s_self : Nat → Nat → Int32) (v3 : Int32), kb s_self v3 = some (r, f_self) → Gd p l e rm_Md_grow s m args below meth c 0 0 (MQ below (sq D classes (tyK K) (some (.int r)) [wd_Md K a_self (a_least 0) f_self] A) args s 0 0 A) D classes A 4 84 [wd_Md K a_self (a_least 0) s_self] [(0, .ref (a_self 0)), (3, .int v3)] []) (kx110 : (Nat → Nat → Int32) → Option ((Int32) × (Nat → Nat → Int32))) (hkx110 : ∀ (s_self : Nat → Nat → Int32), kx110 s_self = some (r, f_self) → Gd p l e rm_Md_grow s m args below meth c 0 0 (MQ below (sq D classes (tyK K) (some (.int r)) [wd_Md K a_self (a_least 0) f_self] A) args s 0 0 A) D classes A 4 110 [wd_Md K a_self (a_least 0) s_self] [(0, .ref (a_self 0))] []) (h : f_Md_grow_84 N kb kx110 s_self v3 = some (r, f_self)) : Gd p l e rm_Md_grow s m args below meth c 0 0 (MQ below (sq D classes (tyK K) (some (.int r)) [wd_Md K a_self (a_least 0) f_self] A) args s 0 0 A) D classes A 4 84 [wd_Md K a_self (a_least 0) s_self] [(0, .ref (a_self 0)), (3, .int v3)] [] := by
  unfold f_Md_grow_84 at h
  refine gd_iload_n X d_Md_grow_84 1 rfl ?_
  refine gd_aload_n X d_Md_grow_85 0 rfl ?_
  refine gd_get X (ci := 7) (C := R_Md) (T := F_Md) (N := 36) (v := .int (s_self 0 10)) 0 0 rfl rfl rfl (in_Md _) 10 (by decide) (List.mem_cons_of_mem _ fl_Md_116) rfl rfl d_Md_grow_86 ?_
  refine gd_icmp_ge X (tgt := 110) d_Md_grow_89 (by decide) (fun c_1 => ?_) (fun c_1 => ?_)
  · replace h := it_p c_1 h
    refine gd_loc (lv' := [(0, .ref (a_self 0))]) [0] rfl ?_
    exact hkx110 s_self h
  · replace h := it_n c_1 h
    refine gd_aload_n X d_Md_grow_92 0 rfl ?_
    refine gd_get X (ci := 7) (C := R_Md) (T := F_Md) (N := 36) (v := .ref (a_self 5)) 0 0 rfl rfl rfl (in_Md _) 9 (by decide) (List.mem_cons_of_mem _ fl_Md_22) rfl rfl d_Md_grow_93 ?_
    refine gd_iload_n X d_Md_grow_96 1 rfl ?_
    refine gd_aload_n X d_Md_grow_97 0 rfl ?_
    refine gd_get X (ci := 7) (C := R_Md) (T := F_Md) (N := 36) (v := .ref (a_self 20)) 0 0 rfl rfl rfl (in_Md _) 31 (by decide) (List.mem_cons_of_mem _ fl_Md_73) rfl rfl d_Md_grow_98 ?_
    refine gd_iload_n X d_Md_grow_101 1 rfl ?_
    obtain ⟨hi_2, h⟩ := ck_e h
    refine gd_iald X 0 20 0 rfl rfl rfl hi_2 d_Md_grow_102 ?_
    obtain ⟨hi_3, h⟩ := ck_e h
    obtain ⟨s_self_4, es_self_4, h⟩ := nm_e' h
    refine gd_iast X (w' := [wd_Md K a_self (a_least 0) s_self_4]) 0 5 0 rfl rfl rfl hi_3 d_Md_grow_103 (by rw [es_self_4]; rfl) ?_
    obtain ⟨v3_5, ev3_5, h⟩ := nm_e' h
    refine gd_iinc X (v := v3_5) (lv' := [(3, .int v3_5), (0, .ref (a_self 0))]) d_Md_grow_104 (k := 1) rfl (by rw [ev3_5]; rfl) (by decide) rfl ?_
    refine gd_goto X (tgt := 84) d_Md_grow_107 (by decide) ?_
    refine gd_loc (lv' := [(0, .ref (a_self 0)), (3, .int v3_5)]) [1, 0] rfl ?_
    exact hkb s_self_4 v3_5 h
def f_Md_grow_110 (N : Nat) (s_self : Nat → Nat → Int32) : Option ((Int32) × (Nat → Nat → Int32)) :=
  nm (st2 s_self 0 14 0) fun s_self_1 =>
  some ((0), s_self_1)
set_option maxHeartbeats 4000000 in
set_option maxRecDepth 100000 in
theorem t_Md_grow_110 {p : Program} {l : Launch} {e : Env} {s : State} {m : MethodId} {args : Array Value} {below : List Frame} {meth : Method} {c : Code} {A : Nat → Prop} {D : va_G} {K : Nat → ClassId} (a_self a_least : Nat → Nat) (X : gx p s m args c b_Md_grow 4 R_Md w_Md_grow D classes (tyK K) A) (hr : meth.sig.returnType = some .int) (hlk : meth.locks = false) (N : Nat) (r : Int32) (f_self : Nat → Nat → Int32) (s_self : Nat → Nat → Int32) (h : f_Md_grow_110 N s_self = some (r, f_self)) : Gd p l e rm_Md_grow s m args below meth c 0 0 (MQ below (sq D classes (tyK K) (some (.int r)) [wd_Md K a_self (a_least 0) f_self] A) args s 0 0 A) D classes A 4 110 [wd_Md K a_self (a_least 0) s_self] [(0, .ref (a_self 0))] [] := by
  unfold f_Md_grow_110 at h
  refine gd_aload_n X d_Md_grow_110 0 rfl ?_
  refine gd_iconst X (v := 0) d_Md_grow_111 (by decide) ?_
  obtain ⟨s_self_1, es_self_1, h⟩ := nm_e' h
  refine gd_put X (ci := 7) (C := R_Md) (T := F_Md) (N := 36) (ty := .boolean) (w' := [wd_Md K a_self (a_least 0) s_self_1]) 0 0 rfl rfl rfl (in_Md _) t_Md t_Md_ok n_Md 14 (by decide) (List.mem_cons_of_mem _ fl_Md_95) rfl rfl (by decide +kernel) (by decide) (by decide) (Nat.le_of_ble_eq_true rfl) d_Md_grow_112 (by rw [es_self_1]; rfl) ?_
  refine gd_iconst X (v := 0) d_Md_grow_115 (by decide) ?_
  cases h
  exact gd_iret X hr hlk d_Md_grow_116
def l_Md_grow_84 (N : Nat) (kx110 : (Nat → Nat → Int32) → Option ((Int32) × (Nat → Nat → Int32))) : Nat → (Nat → Nat → Int32) → Int32 → Option ((Int32) × (Nat → Nat → Int32))
  | 0, _, _ => none
  | n + 1, s_self, v3 => f_Md_grow_84 N (l_Md_grow_84 N kx110 n) kx110 s_self v3
set_option maxHeartbeats 4000000 in
set_option maxRecDepth 100000 in
theorem tl_Md_grow_84 {p : Program} {l : Launch} {e : Env} {s : State} {m : MethodId} {args : Array Value} {below : List Frame} {meth : Method} {c : Code} {A : Nat → Prop} {D : va_G} {K : Nat → ClassId} (a_self a_least : Nat → Nat) (X : gx p s m args c b_Md_grow 4 R_Md w_Md_grow D classes (tyK K) A) (hr : meth.sig.returnType = some .int) (hlk : meth.locks = false) (N : Nat) (r : Int32) (f_self : Nat → Nat → Int32) (kx110 : (Nat → Nat → Int32) → Option ((Int32) × (Nat → Nat → Int32))) (hkx110 : ∀ (s_self : Nat → Nat → Int32), kx110 s_self = some (r, f_self) → Gd p l e rm_Md_grow s m args below meth c 0 0 (MQ below (sq D classes (tyK K) (some (.int r)) [wd_Md K a_self (a_least 0) f_self] A) args s 0 0 A) D classes A 4 110 [wd_Md K a_self (a_least 0) s_self] [(0, .ref (a_self 0))] []) : ∀ (n : Nat) (s_self : Nat → Nat → Int32) (v3 : Int32), l_Md_grow_84 N kx110 n s_self v3 = some (r, f_self) → Gd p l e rm_Md_grow s m args below meth c 0 0 (MQ below (sq D classes (tyK K) (some (.int r)) [wd_Md K a_self (a_least 0) f_self] A) args s 0 0 A) D classes A 4 84 [wd_Md K a_self (a_least 0) s_self] [(0, .ref (a_self 0)), (3, .int v3)] [] := by
  intro n
  induction n with
  | zero => intro s_self v3 h; have h : (none : Option ((Int32) × (Nat → Nat → Int32))) = some _ := h; cases h
  | succ n ih =>
    intro s_self v3 h
    exact t_Md_grow_84 a_self a_least X hr hlk N r f_self s_self v3 (l_Md_grow_84 N kx110 n) ih kx110 hkx110 h
def f_Md_grow_59 (N : Nat) (s_self : Nat → Nat → Int32) : Option ((Int32) × (Nat → Nat → Int32)) :=
  ck 0 200 <|
  if (s_self 21 (Int32.toNatClampNeg 0)) ≤ 12 then
    ck 0 200 <|
    nm (st2 s_self 0 10 (s_self 21 (Int32.toNatClampNeg 0))) fun s_self_4 =>
    l_Md_grow_84 N (fun s_self => f_Md_grow_110 N s_self) N s_self_4 0
  else
    some ((5), s_self)
set_option maxHeartbeats 4000000 in
set_option maxRecDepth 100000 in
theorem t_Md_grow_59 {p : Program} {l : Launch} {e : Env} {s : State} {m : MethodId} {args : Array Value} {below : List Frame} {meth : Method} {c : Code} {A : Nat → Prop} {D : va_G} {K : Nat → ClassId} (a_self a_least : Nat → Nat) (X : gx p s m args c b_Md_grow 4 R_Md w_Md_grow D classes (tyK K) A) (hr : meth.sig.returnType = some .int) (hlk : meth.locks = false) (N : Nat) (r : Int32) (f_self : Nat → Nat → Int32) (s_self : Nat → Nat → Int32) (h : f_Md_grow_59 N s_self = some (r, f_self)) : Gd p l e rm_Md_grow s m args below meth c 0 0 (MQ below (sq D classes (tyK K) (some (.int r)) [wd_Md K a_self (a_least 0) f_self] A) args s 0 0 A) D classes A 4 59 [wd_Md K a_self (a_least 0) s_self] [(0, .ref (a_self 0))] [] := by
  unfold f_Md_grow_59 at h
  refine gd_aload_n X d_Md_grow_59 0 rfl ?_
  refine gd_get X (ci := 7) (C := R_Md) (T := F_Md) (N := 36) (v := .ref (a_self 21)) 0 0 rfl rfl rfl (in_Md _) 32 (by decide) (List.mem_cons_of_mem _ fl_Md_76) rfl rfl d_Md_grow_60 ?_
  refine gd_iconst X (v := 0) d_Md_grow_63 (by decide) ?_
  obtain ⟨hi_1, h⟩ := ck_e h
  refine gd_iald X 0 21 0 rfl rfl rfl hi_1 d_Md_grow_64 ?_
  refine gd_bipush X (v := 12) d_Md_grow_65 (by decide) ?_
  refine gd_icmp_le X (tgt := 72) d_Md_grow_67 (by decide) (fun c_2 => ?_) (fun c_2 => ?_)
  · replace h := it_p c_2 h
    refine gd_aload_n X d_Md_grow_72 0 rfl ?_
    refine gd_aload_n X d_Md_grow_73 0 rfl ?_
    refine gd_get X (ci := 7) (C := R_Md) (T := F_Md) (N := 36) (v := .ref (a_self 21)) 0 0 rfl rfl rfl (in_Md _) 32 (by decide) (List.mem_cons_of_mem _ fl_Md_76) rfl rfl d_Md_grow_74 ?_
    refine gd_iconst X (v := 0) d_Md_grow_77 (by decide) ?_
    obtain ⟨hi_3, h⟩ := ck_e h
    refine gd_iald X 0 21 0 rfl rfl rfl hi_3 d_Md_grow_78 ?_
    obtain ⟨s_self_4, es_self_4, h⟩ := nm_e' h
    refine gd_put X (ci := 7) (C := R_Md) (T := F_Md) (N := 36) (ty := .int) (w' := [wd_Md K a_self (a_least 0) s_self_4]) 0 0 rfl rfl rfl (in_Md _) t_Md t_Md_ok n_Md 10 (by decide) (List.mem_cons_of_mem _ fl_Md_116) rfl rfl (by decide +kernel) rfl rfl (Nat.le_of_ble_eq_true rfl) d_Md_grow_79 (by rw [es_self_4]; rfl) ?_
    refine gd_iconst X (v := 0) d_Md_grow_82 (by decide) ?_
    refine gd_istore_n X (lv' := [(3, .int 0), (0, .ref (a_self 0))]) d_Md_grow_83 rfl (by decide) rfl ?_
    refine gd_loc (lv' := [(0, .ref (a_self 0)), (3, .int 0)]) [1, 0] rfl ?_
    exact tl_Md_grow_84 a_self a_least X hr hlk N r f_self (fun s_self => f_Md_grow_110 N s_self) (fun s_self h => t_Md_grow_110 a_self a_least X hr hlk N r f_self s_self h) N s_self_4 0 h
  · replace h := it_n c_2 h
    refine gd_iconst X (v := 5) d_Md_grow_70 (by decide) ?_
    cases h
    exact gd_iret X hr hlk d_Md_grow_71
def l_Md_grow_39 (N : Nat) (kx59 : (Nat → Nat → Int32) → Option ((Int32) × (Nat → Nat → Int32))) : Nat → (Nat → Nat → Int32) → Int32 → Option ((Int32) × (Nat → Nat → Int32))
  | 0, _, _ => none
  | n + 1, s_self, v3 => f_Md_grow_39 N (l_Md_grow_39 N kx59 n) kx59 s_self v3
set_option maxHeartbeats 4000000 in
set_option maxRecDepth 100000 in
theorem tl_Md_grow_39 {p : Program} {l : Launch} {e : Env} {s : State} {m : MethodId} {args : Array Value} {below : List Frame} {meth : Method} {c : Code} {A : Nat → Prop} {D : va_G} {K : Nat → ClassId} (a_self a_least : Nat → Nat) (X : gx p s m args c b_Md_grow 4 R_Md w_Md_grow D classes (tyK K) A) (hr : meth.sig.returnType = some .int) (hlk : meth.locks = false) (N : Nat) (r : Int32) (f_self : Nat → Nat → Int32) (kx59 : (Nat → Nat → Int32) → Option ((Int32) × (Nat → Nat → Int32))) (hkx59 : ∀ (s_self : Nat → Nat → Int32), kx59 s_self = some (r, f_self) → Gd p l e rm_Md_grow s m args below meth c 0 0 (MQ below (sq D classes (tyK K) (some (.int r)) [wd_Md K a_self (a_least 0) f_self] A) args s 0 0 A) D classes A 4 59 [wd_Md K a_self (a_least 0) s_self] [(0, .ref (a_self 0))] []) : ∀ (n : Nat) (s_self : Nat → Nat → Int32) (v3 : Int32), l_Md_grow_39 N kx59 n s_self v3 = some (r, f_self) → Gd p l e rm_Md_grow s m args below meth c 0 0 (MQ below (sq D classes (tyK K) (some (.int r)) [wd_Md K a_self (a_least 0) f_self] A) args s 0 0 A) D classes A 4 39 [wd_Md K a_self (a_least 0) s_self] [(0, .ref (a_self 0)), (3, .int v3)] [] := by
  intro n
  induction n with
  | zero => intro s_self v3 h; have h : (none : Option ((Int32) × (Nat → Nat → Int32))) = some _ := h; cases h
  | succ n ih =>
    intro s_self v3 h
    exact t_Md_grow_39 a_self a_least X hr hlk N r f_self s_self v3 (l_Md_grow_39 N kx59 n) ih kx59 hkx59 h
def f_Md_grow_0 (N : Nat) (s_self : Nat → Nat → Int32) (v1 : Int32) : Option ((Int32) × (Nat → Nat → Int32)) :=
  nm (st2 s_self 0 0 0) fun s_self_1 =>
  bd1 (m_Md_isSort s_self_1 v1) fun r_2 =>
  if r_2 = 0 then
    some (((-1)), s_self_1)
  else
    bd2 (m_Md_fits N s_self_1 v1) fun r_5 s_self_6 =>
    if r_5 ≤ 0 then
      nm (st2 s_self_6 0 33 0) fun s_self_9 =>
      nm ((s_self_9 0 12) - 1) fun v3_10 =>
      l_Md_grow_39 N (fun s_self => f_Md_grow_59 N s_self) N s_self_9 v3_10
    else
      some ((r_5), s_self_6)
set_option maxHeartbeats 4000000 in
set_option maxRecDepth 100000 in
theorem t_Md_grow_0 {p : Program} {l : Launch} {e : Env} {s : State} {m : MethodId} {args : Array Value} {below : List Frame} {meth : Method} {c : Code} {A : Nat → Prop} {D : va_G} {K : Nat → ClassId} (a_self a_least : Nat → Nat) (X : gx p s m args c b_Md_grow 4 R_Md w_Md_grow D classes (tyK K) A) (hr : meth.sig.returnType = some .int) (hlk : meth.locks = false) (N : Nat) (r : Int32) (f_self : Nat → Nat → Int32) (s_self : Nat → Nat → Int32) (v1 : Int32) (h : f_Md_grow_0 N s_self v1 = some (r, f_self)) : Gd p l e rm_Md_grow s m args below meth c 0 0 (MQ below (sq D classes (tyK K) (some (.int r)) [wd_Md K a_self (a_least 0) f_self] A) args s 0 0 A) D classes A 4 0 [wd_Md K a_self (a_least 0) s_self] [(0, .ref (a_self 0)), (1, .int v1)] [] := by
  unfold f_Md_grow_0 at h
  refine gd_aload_n X d_Md_grow_0 0 rfl ?_
  refine gd_iconst X (v := 0) d_Md_grow_1 (by decide) ?_
  obtain ⟨s_self_1, es_self_1, h⟩ := nm_e' h
  refine gd_put X (ci := 7) (C := R_Md) (T := F_Md) (N := 36) (ty := .int) (w' := [wd_Md K a_self (a_least 0) s_self_1]) 0 0 rfl rfl rfl (in_Md _) t_Md t_Md_ok n_Md 0 (by decide) (List.mem_cons_of_mem _ fl_Md_86) rfl rfl (by decide +kernel) rfl rfl (Nat.le_of_ble_eq_true rfl) d_Md_grow_2 (by rw [es_self_1]; rfl) ?_
  refine gd_aload_n X d_Md_grow_5 0 rfl ?_
  refine gd_iload_n X d_Md_grow_6 1 rfl ?_
  obtain ⟨r_2, hc_3, h⟩ := bd1_e h
  refine gd_fI X (gd_V X (As := [.int v1]) (rest := []) (c_Md_isSort l D K a_self a_least s_self_1 v1 r_2 hc_3) 1 (gi_V ml_Md_99 u_Md_isSort) rfl ⟨rfl, rfl⟩ (by decide +kernel) ⟨by decide, by decide⟩ (ci := 7) rfl rfl rfl rfl rfl rfl (Nat.le_of_ble_eq_true rfl) ⟨Nat.zero_le _, Nat.zero_le _⟩ d_Md_grow_7) ?_
  refine gd_if_ne X (tgt := 15) d_Md_grow_10 (by decide) (fun c_4 => ?_) (fun c_4 => ?_)
  · replace h := it_n c_4 h
    refine gd_aload_n X d_Md_grow_15 0 rfl ?_
    refine gd_iload_n X d_Md_grow_16 1 rfl ?_
    obtain ⟨r_5, s_self_6, hc_7, h⟩ := bd2_e h
    refine gd_fI X (w1 := [wd_Md K a_self (a_least 0) s_self_6]) (gd_V X (As := [.int v1]) (rest := []) (c_Md_fits l D K a_self a_least N s_self_1 v1 r_5 s_self_6 hc_7) 1 (gi_V ml_Md_216 u_Md_fits) rfl ⟨rfl, rfl⟩ (by decide +kernel) ⟨by decide, by decide⟩ (ci := 7) rfl rfl rfl rfl rfl rfl (Nat.le_of_ble_eq_true rfl) ⟨Nat.zero_le _, Nat.zero_le _⟩ d_Md_grow_17) ?_
    refine gd_istore_n X (lv' := [(2, .int r_5), (0, .ref (a_self 0)), (1, .int v1)]) d_Md_grow_20 rfl (by decide) rfl ?_
    refine gd_iload_n X d_Md_grow_21 0 rfl ?_
    refine gd_if_le X (tgt := 27) d_Md_grow_22 (by decide) (fun c_8 => ?_) (fun c_8 => ?_)
    · replace h := it_p c_8 h
      refine gd_aload_n X d_Md_grow_27 1 rfl ?_
      refine gd_iconst X (v := 0) d_Md_grow_28 (by decide) ?_
      obtain ⟨s_self_9, es_self_9, h⟩ := nm_e' h
      refine gd_put X (ci := 7) (C := R_Md) (T := F_Md) (N := 36) (ty := .int) (w' := [wd_Md K a_self (a_least 0) s_self_9]) 0 0 rfl rfl rfl (in_Md _) t_Md t_Md_ok n_Md 33 (by decide) (List.mem_cons_of_mem _ fl_Md_207) rfl rfl (by decide +kernel) rfl rfl (Nat.le_of_ble_eq_true rfl) d_Md_grow_29 (by rw [es_self_9]; rfl) ?_
      refine gd_aload_n X d_Md_grow_32 1 rfl ?_
      refine gd_get X (ci := 7) (C := R_Md) (T := F_Md) (N := 36) (v := .int (s_self_9 0 12)) 0 0 rfl rfl rfl (in_Md _) 12 (by decide) (List.mem_cons_of_mem _ fl_Md_198) rfl rfl d_Md_grow_33 ?_
      refine gd_iconst X (v := 1) d_Md_grow_36 (by decide) ?_
      refine gd_isub X d_Md_grow_37 ?_
      obtain ⟨v3_10, ev3_10, h⟩ := nm_e' h
      refine gd_topi ev3_10 ?_
      refine gd_istore_n X (lv' := [(3, .int v3_10), (2, .int r_5), (0, .ref (a_self 0)), (1, .int v1)]) d_Md_grow_38 rfl (by decide) rfl ?_
      refine gd_loc (lv' := [(0, .ref (a_self 0)), (3, .int v3_10)]) [2, 0] rfl ?_
      exact tl_Md_grow_39 a_self a_least X hr hlk N r f_self (fun s_self => f_Md_grow_59 N s_self) (fun s_self h => t_Md_grow_59 a_self a_least X hr hlk N r f_self s_self h) N s_self_9 v3_10 h
    · replace h := it_n c_8 h
      refine gd_iload_n X d_Md_grow_25 0 rfl ?_
      cases h
      exact gd_iret X hr hlk d_Md_grow_26
  · replace h := it_p c_4 h
    refine gd_iconst X (v := (-1)) d_Md_grow_13 (by decide) ?_
    cases h
    exact gd_iret X hr hlk d_Md_grow_14
def m_Md_grow (N : Nat) (s_self : Nat → Nat → Int32) (v1 : Int32) : Option ((Int32) × (Nat → Nat → Int32)) := f_Md_grow_0 N s_self v1
set_option maxHeartbeats 4000000 in
set_option maxRecDepth 100000 in
theorem c_Md_grow (l : Launch) (D : va_G) (K : Nat → ClassId) (a_self a_least : Nat → Nat) (N : Nat) (s_self : Nat → Nat → Int32) (v1 : Int32) (r : Int32) (f_self : Nat → Nat → Int32) (h : m_Md_grow N s_self v1 = some (r, f_self)) : SMet l y_Md_grow w_Md_grow rm_Md_grow D classes (tyK K) [.ref (a_self 0), .int v1] (some (.int r)) [wd_Md K a_self (a_least 0) s_self] [wd_Md K a_self (a_least 0) f_self] := by
  refine sm_of R_Md (by decide) rfl rfl (Nat.le_of_ble_eq_true rfl) ?_
  intro p e s m below meth c A X hr hlk
  refine gd_loc (lv' := [(0, .ref (a_self 0)), (1, .int v1)]) [0, 1] rfl ?_
  exact t_Md_grow_0 a_self a_least X hr hlk N r f_self s_self v1 h
abbrev b_Md_place : ByteArray := prog_10_method_46_code
def y_Md_place : MethodName := ⟨R_Md, "place", "()I"⟩
def w_Md_place : List Cond := .code y_Md_place b_Md_place 1 (some .int) :: TB
theorem k_Md_place : Cond.code y_Md_place b_Md_place 1 (some .int) ∈ TB := tb_of 1005 (by decide +kernel) (by decide +kernel)
theorem d_Md_place_0 : decode b_Md_place 0 = .ok (.aload_n 0, 1) := by decide +kernel
theorem d_Md_place_1 : decode b_Md_place 1 = .ok (.iconst 0, 1) := by decide +kernel
theorem d_Md_place_2 : decode b_Md_place 2 = .ok (.putfield 86, 3) := by decide +kernel
theorem d_Md_place_5 : decode b_Md_place 5 = .ok (.aload_n 0, 1) := by decide +kernel
theorem d_Md_place_6 : decode b_Md_place 6 = .ok (.getfield 28, 3) := by decide +kernel
theorem d_Md_place_9 : decode b_Md_place 9 = .ok (.ireturn, 1) := by decide +kernel
abbrev rm_Md_place : Room := { frames := 0, cells := 0, slots := 0, locals := 0 }
def f_Md_place_0 (s_self : Nat → Nat → Int32) : Option ((Int32) × (Nat → Nat → Int32)) :=
  nm (st2 s_self 0 0 0) fun s_self_1 =>
  some ((s_self_1 0 13), s_self_1)
set_option maxHeartbeats 4000000 in
set_option maxRecDepth 100000 in
theorem t_Md_place_0 {p : Program} {l : Launch} {e : Env} {s : State} {m : MethodId} {args : Array Value} {below : List Frame} {meth : Method} {c : Code} {A : Nat → Prop} {D : va_G} {K : Nat → ClassId} (a_self a_least : Nat → Nat) (X : gx p s m args c b_Md_place 1 R_Md w_Md_place D classes (tyK K) A) (hr : meth.sig.returnType = some .int) (hlk : meth.locks = false) (r : Int32) (f_self : Nat → Nat → Int32) (s_self : Nat → Nat → Int32) (h : f_Md_place_0 s_self = some (r, f_self)) : Gd p l e rm_Md_place s m args below meth c 0 0 (MQ below (sq D classes (tyK K) (some (.int r)) [wd_Md K a_self (a_least 0) f_self] A) args s 0 0 A) D classes A 1 0 [wd_Md K a_self (a_least 0) s_self] [(0, .ref (a_self 0))] [] := by
  unfold f_Md_place_0 at h
  refine gd_aload_n X d_Md_place_0 0 rfl ?_
  refine gd_iconst X (v := 0) d_Md_place_1 (by decide) ?_
  obtain ⟨s_self_1, es_self_1, h⟩ := nm_e' h
  refine gd_put X (ci := 7) (C := R_Md) (T := F_Md) (N := 36) (ty := .int) (w' := [wd_Md K a_self (a_least 0) s_self_1]) 0 0 rfl rfl rfl (in_Md _) t_Md t_Md_ok n_Md 0 (by decide) (List.mem_cons_of_mem _ fl_Md_86) rfl rfl (by decide +kernel) rfl rfl (Nat.le_of_ble_eq_true rfl) d_Md_place_2 (by rw [es_self_1]; rfl) ?_
  refine gd_aload_n X d_Md_place_5 0 rfl ?_
  refine gd_get X (ci := 7) (C := R_Md) (T := F_Md) (N := 36) (v := .int (s_self_1 0 13)) 0 0 rfl rfl rfl (in_Md _) 13 (by decide) (List.mem_cons_of_mem _ fl_Md_28) rfl rfl d_Md_place_6 ?_
  cases h
  exact gd_iret X hr hlk d_Md_place_9
def m_Md_place (s_self : Nat → Nat → Int32) : Option ((Int32) × (Nat → Nat → Int32)) := f_Md_place_0 s_self
set_option maxHeartbeats 4000000 in
set_option maxRecDepth 100000 in
theorem c_Md_place (l : Launch) (D : va_G) (K : Nat → ClassId) (a_self a_least : Nat → Nat) (s_self : Nat → Nat → Int32) (r : Int32) (f_self : Nat → Nat → Int32) (h : m_Md_place s_self = some (r, f_self)) : SMet l y_Md_place w_Md_place rm_Md_place D classes (tyK K) [.ref (a_self 0)] (some (.int r)) [wd_Md K a_self (a_least 0) s_self] [wd_Md K a_self (a_least 0) f_self] := by
  refine sm_of R_Md (by decide) rfl rfl (Nat.le_of_ble_eq_true rfl) ?_
  intro p e s m below meth c A X hr hlk
  refine gd_loc (lv' := [(0, .ref (a_self 0))]) [0] rfl ?_
  exact t_Md_place_0 a_self a_least X hr hlk r f_self s_self h
