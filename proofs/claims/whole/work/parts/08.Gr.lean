abbrev b_Gr_slotInBegun : ByteArray := prog_3_method_19_code
def y_Gr_slotInBegun : MethodName := ⟨R_Gr, "slotInBegun", "(I)I"⟩
def w_Gr_slotInBegun : List Cond := .code y_Gr_slotInBegun b_Gr_slotInBegun 4 (some .int) :: TB
theorem k_Gr_slotInBegun : Cond.code y_Gr_slotInBegun b_Gr_slotInBegun 4 (some .int) ∈ TB := tb_of 332 (by decide +kernel) (by decide +kernel)
theorem d_Gr_slotInBegun_0 : decode b_Gr_slotInBegun 0 = .ok (.aload_n 0, 1) := by decide +kernel
theorem d_Gr_slotInBegun_1 : decode b_Gr_slotInBegun 1 = .ok (.getfield 37, 3) := by decide +kernel
theorem d_Gr_slotInBegun_4 : decode b_Gr_slotInBegun 4 = .ok (.bipush 8, 2) := by decide +kernel
theorem d_Gr_slotInBegun_6 : decode b_Gr_slotInBegun 6 = .ok (.imul, 1) := by decide +kernel
theorem d_Gr_slotInBegun_7 : decode b_Gr_slotInBegun 7 = .ok (.istore_n 2, 1) := by decide +kernel
theorem d_Gr_slotInBegun_8 : decode b_Gr_slotInBegun 8 = .ok (.iconst 0, 1) := by decide +kernel
theorem d_Gr_slotInBegun_9 : decode b_Gr_slotInBegun 9 = .ok (.istore_n 3, 1) := by decide +kernel
theorem d_Gr_slotInBegun_10 : decode b_Gr_slotInBegun 10 = .ok (.iload_n 3, 1) := by decide +kernel
theorem d_Gr_slotInBegun_11 : decode b_Gr_slotInBegun 11 = .ok (.aload_n 0, 1) := by decide +kernel
theorem d_Gr_slotInBegun_12 : decode b_Gr_slotInBegun 12 = .ok (.getfield 18, 3) := by decide +kernel
theorem d_Gr_slotInBegun_15 : decode b_Gr_slotInBegun 15 = .ok (.aload_n 0, 1) := by decide +kernel
theorem d_Gr_slotInBegun_16 : decode b_Gr_slotInBegun 16 = .ok (.getfield 37, 3) := by decide +kernel
theorem d_Gr_slotInBegun_19 : decode b_Gr_slotInBegun 19 = .ok (.iaload, 1) := by decide +kernel
theorem d_Gr_slotInBegun_20 : decode b_Gr_slotInBegun 20 = .ok (.if_icmp .ge 30, 3) := by decide +kernel
theorem d_Gr_slotInBegun_23 : decode b_Gr_slotInBegun 23 = .ok (.aload_n 0, 1) := by decide +kernel
theorem d_Gr_slotInBegun_24 : decode b_Gr_slotInBegun 24 = .ok (.getfield 21, 3) := by decide +kernel
theorem d_Gr_slotInBegun_27 : decode b_Gr_slotInBegun 27 = .ok (.iload_n 2, 1) := by decide +kernel
theorem d_Gr_slotInBegun_28 : decode b_Gr_slotInBegun 28 = .ok (.iload_n 3, 1) := by decide +kernel
theorem d_Gr_slotInBegun_29 : decode b_Gr_slotInBegun 29 = .ok (.iadd, 1) := by decide +kernel
theorem d_Gr_slotInBegun_30 : decode b_Gr_slotInBegun 30 = .ok (.iaload, 1) := by decide +kernel
theorem d_Gr_slotInBegun_31 : decode b_Gr_slotInBegun 31 = .ok (.iload_n 1, 1) := by decide +kernel
theorem d_Gr_slotInBegun_32 : decode b_Gr_slotInBegun 32 = .ok (.if_icmp .ne 12, 3) := by decide +kernel
theorem d_Gr_slotInBegun_35 : decode b_Gr_slotInBegun 35 = .ok (.aload_n 0, 1) := by decide +kernel
theorem d_Gr_slotInBegun_36 : decode b_Gr_slotInBegun 36 = .ok (.getfield 24, 3) := by decide +kernel
theorem d_Gr_slotInBegun_39 : decode b_Gr_slotInBegun 39 = .ok (.iload_n 2, 1) := by decide +kernel
theorem d_Gr_slotInBegun_40 : decode b_Gr_slotInBegun 40 = .ok (.iload_n 3, 1) := by decide +kernel
theorem d_Gr_slotInBegun_41 : decode b_Gr_slotInBegun 41 = .ok (.iadd, 1) := by decide +kernel
theorem d_Gr_slotInBegun_42 : decode b_Gr_slotInBegun 42 = .ok (.iaload, 1) := by decide +kernel
theorem d_Gr_slotInBegun_43 : decode b_Gr_slotInBegun 43 = .ok (.ireturn, 1) := by decide +kernel
theorem d_Gr_slotInBegun_44 : decode b_Gr_slotInBegun 44 = .ok (.iinc 3 1, 3) := by decide +kernel
theorem d_Gr_slotInBegun_47 : decode b_Gr_slotInBegun 47 = .ok (.goto (-37), 3) := by decide +kernel
theorem d_Gr_slotInBegun_50 : decode b_Gr_slotInBegun 50 = .ok (.aload_n 0, 1) := by decide +kernel
theorem d_Gr_slotInBegun_51 : decode b_Gr_slotInBegun 51 = .ok (.getfield 27, 3) := by decide +kernel
theorem d_Gr_slotInBegun_54 : decode b_Gr_slotInBegun 54 = .ok (.aload_n 0, 1) := by decide +kernel
theorem d_Gr_slotInBegun_55 : decode b_Gr_slotInBegun 55 = .ok (.getfield 37, 3) := by decide +kernel
theorem d_Gr_slotInBegun_58 : decode b_Gr_slotInBegun 58 = .ok (.iaload, 1) := by decide +kernel
theorem d_Gr_slotInBegun_59 : decode b_Gr_slotInBegun 59 = .ok (.istore_n 3, 1) := by decide +kernel
theorem d_Gr_slotInBegun_60 : decode b_Gr_slotInBegun 60 = .ok (.iload_n 3, 1) := by decide +kernel
theorem d_Gr_slotInBegun_61 : decode b_Gr_slotInBegun 61 = .ok (.iconst 4, 1) := by decide +kernel
theorem d_Gr_slotInBegun_62 : decode b_Gr_slotInBegun 62 = .ok (.if_icmp .lt 5, 3) := by decide +kernel
theorem d_Gr_slotInBegun_65 : decode b_Gr_slotInBegun 65 = .ok (.iconst (-1), 1) := by decide +kernel
theorem d_Gr_slotInBegun_66 : decode b_Gr_slotInBegun 66 = .ok (.ireturn, 1) := by decide +kernel
theorem d_Gr_slotInBegun_67 : decode b_Gr_slotInBegun 67 = .ok (.aload_n 0, 1) := by decide +kernel
theorem d_Gr_slotInBegun_68 : decode b_Gr_slotInBegun 68 = .ok (.getfield 30, 3) := by decide +kernel
theorem d_Gr_slotInBegun_71 : decode b_Gr_slotInBegun 71 = .ok (.aload_n 0, 1) := by decide +kernel
theorem d_Gr_slotInBegun_72 : decode b_Gr_slotInBegun 72 = .ok (.getfield 37, 3) := by decide +kernel
theorem d_Gr_slotInBegun_75 : decode b_Gr_slotInBegun 75 = .ok (.iconst 4, 1) := by decide +kernel
theorem d_Gr_slotInBegun_76 : decode b_Gr_slotInBegun 76 = .ok (.imul, 1) := by decide +kernel
theorem d_Gr_slotInBegun_77 : decode b_Gr_slotInBegun 77 = .ok (.iload_n 3, 1) := by decide +kernel
theorem d_Gr_slotInBegun_78 : decode b_Gr_slotInBegun 78 = .ok (.iadd, 1) := by decide +kernel
theorem d_Gr_slotInBegun_79 : decode b_Gr_slotInBegun 79 = .ok (.aload_n 0, 1) := by decide +kernel
theorem d_Gr_slotInBegun_80 : decode b_Gr_slotInBegun 80 = .ok (.getfield 9, 3) := by decide +kernel
theorem d_Gr_slotInBegun_83 : decode b_Gr_slotInBegun 83 = .ok (.iconst (-1), 1) := by decide +kernel
theorem d_Gr_slotInBegun_84 : decode b_Gr_slotInBegun 84 = .ok (.iload_n 1, 1) := by decide +kernel
theorem d_Gr_slotInBegun_85 : decode b_Gr_slotInBegun 85 = .ok (.isub, 1) := by decide +kernel
theorem d_Gr_slotInBegun_86 : decode b_Gr_slotInBegun 86 = .ok (.iaload, 1) := by decide +kernel
theorem d_Gr_slotInBegun_87 : decode b_Gr_slotInBegun 87 = .ok (.iastore, 1) := by decide +kernel
theorem d_Gr_slotInBegun_88 : decode b_Gr_slotInBegun 88 = .ok (.aload_n 0, 1) := by decide +kernel
theorem d_Gr_slotInBegun_89 : decode b_Gr_slotInBegun 89 = .ok (.getfield 27, 3) := by decide +kernel
theorem d_Gr_slotInBegun_92 : decode b_Gr_slotInBegun 92 = .ok (.aload_n 0, 1) := by decide +kernel
theorem d_Gr_slotInBegun_93 : decode b_Gr_slotInBegun 93 = .ok (.getfield 37, 3) := by decide +kernel
theorem d_Gr_slotInBegun_96 : decode b_Gr_slotInBegun 96 = .ok (.iload_n 3, 1) := by decide +kernel
theorem d_Gr_slotInBegun_97 : decode b_Gr_slotInBegun 97 = .ok (.iconst 1, 1) := by decide +kernel
theorem d_Gr_slotInBegun_98 : decode b_Gr_slotInBegun 98 = .ok (.iadd, 1) := by decide +kernel
theorem d_Gr_slotInBegun_99 : decode b_Gr_slotInBegun 99 = .ok (.iastore, 1) := by decide +kernel
theorem d_Gr_slotInBegun_100 : decode b_Gr_slotInBegun 100 = .ok (.iload_n 3, 1) := by decide +kernel
theorem d_Gr_slotInBegun_101 : decode b_Gr_slotInBegun 101 = .ok (.ireturn, 1) := by decide +kernel
abbrev rm_Gr_slotInBegun : Room := { frames := 0, cells := 0, slots := 0, locals := 0 }
def f_Gr_slotInBegun_10 (N : Nat) (kb : Int32 → Option ((Int32) × (Nat → Nat → Int32))) (kx35 : Int32 → Option ((Int32) × (Nat → Nat → Int32))) (kx50 : Option ((Int32) × (Nat → Nat → Int32))) (s_self : Nat → Nat → Int32) (v1 v2 v3 : Int32) : Option ((Int32) × (Nat → Nat → Int32)) :=
  ck (s_self 0 2) 30 <|
  if (s_self 3 (Int32.toNatClampNeg (s_self 0 2))) ≤ v3 then
    kx50
  else
    ck (v2 + v3) 240 <|
    if (s_self 4 (Int32.toNatClampNeg (v2 + v3))) = v1 then
      kx35 v3
    else
      nm (v3 + 1) fun v3_5 =>
      kb v3_5
set_option maxHeartbeats 4000000 in
set_option maxRecDepth 100000 in
theorem t_Gr_slotInBegun_10 {p : Program} {l : Launch} {e : Env} {s : State} {m : MethodId} {args : Array Value} {below : List Frame} {meth : Method} {c : Code} {A : Nat → Prop} {D : va_G} {K : Nat → ClassId} (a_self : Nat → Nat) (X : gx p s m args c b_Gr_slotInBegun 4 R_Gr w_Gr_slotInBegun D classes (tyK K) A) (hr : meth.sig.returnType = some .int) (hlk : meth.locks = false) (N : Nat) (r : Int32) (f_self : Nat → Nat → Int32) (s_self : Nat → Nat → Int32) (v1 v2 v3 : Int32) (kb : Int32 → Option ((Int32) × (Nat → Nat → Int32))) (hkb : ∀ (v3 : Int32), kb v3 = some (r, f_self) → Gd p l e rm_Gr_slotInBegun s m args below meth c 0 0 (MQ below (sq D classes (tyK K) (some (.int r)) [wd_Gr K a_self f_self] A) args s 0 0 A) D classes A 4 10 [wd_Gr K a_self s_self] [(0, .ref (a_self 0)), (1, .int v1), (2, .int v2), (3, .int v3)] []) (kx35 : Int32 → Option ((Int32) × (Nat → Nat → Int32))) (hkx35 : ∀ (v3 : Int32), kx35 v3 = some (r, f_self) → Gd p l e rm_Gr_slotInBegun s m args below meth c 0 0 (MQ below (sq D classes (tyK K) (some (.int r)) [wd_Gr K a_self f_self] A) args s 0 0 A) D classes A 4 35 [wd_Gr K a_self s_self] [(0, .ref (a_self 0)), (2, .int v2), (3, .int v3)] []) (kx50 : Option ((Int32) × (Nat → Nat → Int32))) (hkx50 : kx50 = some (r, f_self) → Gd p l e rm_Gr_slotInBegun s m args below meth c 0 0 (MQ below (sq D classes (tyK K) (some (.int r)) [wd_Gr K a_self f_self] A) args s 0 0 A) D classes A 4 50 [wd_Gr K a_self s_self] [(0, .ref (a_self 0)), (1, .int v1)] []) (h : f_Gr_slotInBegun_10 N kb kx35 kx50 s_self v1 v2 v3 = some (r, f_self)) : Gd p l e rm_Gr_slotInBegun s m args below meth c 0 0 (MQ below (sq D classes (tyK K) (some (.int r)) [wd_Gr K a_self f_self] A) args s 0 0 A) D classes A 4 10 [wd_Gr K a_self s_self] [(0, .ref (a_self 0)), (1, .int v1), (2, .int v2), (3, .int v3)] [] := by
  unfold f_Gr_slotInBegun_10 at h
  refine gd_iload_n X d_Gr_slotInBegun_10 3 rfl ?_
  refine gd_aload_n X d_Gr_slotInBegun_11 0 rfl ?_
  refine gd_get X (ci := 1) (C := R_Gr) (T := F_Gr) (N := 12) (v := .ref (a_self 3)) 0 0 rfl rfl rfl (in_Gr _) 7 (by decide) (List.mem_cons_of_mem _ fl_Gr_18) rfl rfl d_Gr_slotInBegun_12 ?_
  refine gd_aload_n X d_Gr_slotInBegun_15 0 rfl ?_
  refine gd_get X (ci := 1) (C := R_Gr) (T := F_Gr) (N := 12) (v := .int (s_self 0 2)) 0 0 rfl rfl rfl (in_Gr _) 2 (by decide) (List.mem_cons_of_mem _ fl_Gr_37) rfl rfl d_Gr_slotInBegun_16 ?_
  obtain ⟨hi_1, h⟩ := ck_e h
  refine gd_iald X 0 3 0 rfl rfl rfl hi_1 d_Gr_slotInBegun_19 ?_
  refine gd_icmp_ge X (tgt := 50) d_Gr_slotInBegun_20 (by decide) (fun c_2 => ?_) (fun c_2 => ?_)
  · replace h := it_p c_2 h
    refine gd_loc (lv' := [(0, .ref (a_self 0)), (1, .int v1)]) [0, 1] rfl ?_
    exact hkx50 h
  · replace h := it_n c_2 h
    refine gd_aload_n X d_Gr_slotInBegun_23 0 rfl ?_
    refine gd_get X (ci := 1) (C := R_Gr) (T := F_Gr) (N := 12) (v := .ref (a_self 4)) 0 0 rfl rfl rfl (in_Gr _) 8 (by decide) (List.mem_cons_of_mem _ fl_Gr_21) rfl rfl d_Gr_slotInBegun_24 ?_
    refine gd_iload_n X d_Gr_slotInBegun_27 2 rfl ?_
    refine gd_iload_n X d_Gr_slotInBegun_28 3 rfl ?_
    refine gd_iadd X d_Gr_slotInBegun_29 ?_
    obtain ⟨hi_3, h⟩ := ck_e h
    refine gd_iald X 0 4 0 rfl rfl rfl hi_3 d_Gr_slotInBegun_30 ?_
    refine gd_iload_n X d_Gr_slotInBegun_31 1 rfl ?_
    refine gd_icmp_ne X (tgt := 44) d_Gr_slotInBegun_32 (by decide) (fun c_4 => ?_) (fun c_4 => ?_)
    · replace h := it_n c_4 h
      obtain ⟨v3_5, ev3_5, h⟩ := nm_e' h
      refine gd_iinc X (v := v3_5) (lv' := [(3, .int v3_5), (0, .ref (a_self 0)), (1, .int v1), (2, .int v2)]) d_Gr_slotInBegun_44 (k := 3) rfl (by rw [ev3_5]; rfl) (by decide) rfl ?_
      refine gd_goto X (tgt := 10) d_Gr_slotInBegun_47 (by decide) ?_
      refine gd_loc (lv' := [(0, .ref (a_self 0)), (1, .int v1), (2, .int v2), (3, .int v3_5)]) [1, 2, 3, 0] rfl ?_
      exact hkb v3_5 h
    · replace h := it_p c_4 h
      refine gd_loc (lv' := [(0, .ref (a_self 0)), (2, .int v2), (3, .int v3)]) [0, 2, 3] rfl ?_
      exact hkx35 v3 h
def f_Gr_slotInBegun_35 (N : Nat) (s_self : Nat → Nat → Int32) (v2 v3 : Int32) : Option ((Int32) × (Nat → Nat → Int32)) :=
  ck (v2 + v3) 240 <|
  some ((s_self 5 (Int32.toNatClampNeg (v2 + v3))), s_self)
set_option maxHeartbeats 4000000 in
set_option maxRecDepth 100000 in
theorem t_Gr_slotInBegun_35 {p : Program} {l : Launch} {e : Env} {s : State} {m : MethodId} {args : Array Value} {below : List Frame} {meth : Method} {c : Code} {A : Nat → Prop} {D : va_G} {K : Nat → ClassId} (a_self : Nat → Nat) (X : gx p s m args c b_Gr_slotInBegun 4 R_Gr w_Gr_slotInBegun D classes (tyK K) A) (hr : meth.sig.returnType = some .int) (hlk : meth.locks = false) (N : Nat) (r : Int32) (f_self : Nat → Nat → Int32) (s_self : Nat → Nat → Int32) (v2 v3 : Int32) (h : f_Gr_slotInBegun_35 N s_self v2 v3 = some (r, f_self)) : Gd p l e rm_Gr_slotInBegun s m args below meth c 0 0 (MQ below (sq D classes (tyK K) (some (.int r)) [wd_Gr K a_self f_self] A) args s 0 0 A) D classes A 4 35 [wd_Gr K a_self s_self] [(0, .ref (a_self 0)), (2, .int v2), (3, .int v3)] [] := by
  unfold f_Gr_slotInBegun_35 at h
  refine gd_aload_n X d_Gr_slotInBegun_35 0 rfl ?_
  refine gd_get X (ci := 1) (C := R_Gr) (T := F_Gr) (N := 12) (v := .ref (a_self 5)) 0 0 rfl rfl rfl (in_Gr _) 9 (by decide) (List.mem_cons_of_mem _ fl_Gr_24) rfl rfl d_Gr_slotInBegun_36 ?_
  refine gd_iload_n X d_Gr_slotInBegun_39 1 rfl ?_
  refine gd_iload_n X d_Gr_slotInBegun_40 2 rfl ?_
  refine gd_iadd X d_Gr_slotInBegun_41 ?_
  obtain ⟨hi_1, h⟩ := ck_e h
  refine gd_iald X 0 5 0 rfl rfl rfl hi_1 d_Gr_slotInBegun_42 ?_
  cases h
  exact gd_iret X hr hlk d_Gr_slotInBegun_43
def f_Gr_slotInBegun_50 (N : Nat) (s_self : Nat → Nat → Int32) (v1 : Int32) : Option ((Int32) × (Nat → Nat → Int32)) :=
  ck (s_self 0 2) 30 <|
  nm (s_self 6 (Int32.toNatClampNeg (s_self 0 2))) fun v3_2 =>
  if v3_2 < 4 then
    ck ((-1) - v1) 20 <|
    ck (((s_self 0 2) * 4) + v3_2) 120 <| nm (st2 s_self 7 (Int32.toNatClampNeg (((s_self 0 2) * 4) + v3_2)) (s_self 1 (Int32.toNatClampNeg ((-1) - v1)))) fun s_self_6 =>
    ck (s_self_6 0 2) 30 <| nm (st2 s_self_6 6 (Int32.toNatClampNeg (s_self_6 0 2)) (v3_2 + 1)) fun s_self_8 =>
    some ((v3_2), s_self_8)
  else
    some (((-1)), s_self)
set_option maxHeartbeats 4000000 in
set_option maxRecDepth 100000 in
theorem t_Gr_slotInBegun_50 {p : Program} {l : Launch} {e : Env} {s : State} {m : MethodId} {args : Array Value} {below : List Frame} {meth : Method} {c : Code} {A : Nat → Prop} {D : va_G} {K : Nat → ClassId} (a_self : Nat → Nat) (X : gx p s m args c b_Gr_slotInBegun 4 R_Gr w_Gr_slotInBegun D classes (tyK K) A) (hr : meth.sig.returnType = some .int) (hlk : meth.locks = false) (N : Nat) (r : Int32) (f_self : Nat → Nat → Int32) (s_self : Nat → Nat → Int32) (v1 : Int32) (h : f_Gr_slotInBegun_50 N s_self v1 = some (r, f_self)) : Gd p l e rm_Gr_slotInBegun s m args below meth c 0 0 (MQ below (sq D classes (tyK K) (some (.int r)) [wd_Gr K a_self f_self] A) args s 0 0 A) D classes A 4 50 [wd_Gr K a_self s_self] [(0, .ref (a_self 0)), (1, .int v1)] [] := by
  unfold f_Gr_slotInBegun_50 at h
  refine gd_aload_n X d_Gr_slotInBegun_50 0 rfl ?_
  refine gd_get X (ci := 1) (C := R_Gr) (T := F_Gr) (N := 12) (v := .ref (a_self 6)) 0 0 rfl rfl rfl (in_Gr _) 10 (by decide) (List.mem_cons_of_mem _ fl_Gr_27) rfl rfl d_Gr_slotInBegun_51 ?_
  refine gd_aload_n X d_Gr_slotInBegun_54 0 rfl ?_
  refine gd_get X (ci := 1) (C := R_Gr) (T := F_Gr) (N := 12) (v := .int (s_self 0 2)) 0 0 rfl rfl rfl (in_Gr _) 2 (by decide) (List.mem_cons_of_mem _ fl_Gr_37) rfl rfl d_Gr_slotInBegun_55 ?_
  obtain ⟨hi_1, h⟩ := ck_e h
  refine gd_iald X 0 6 0 rfl rfl rfl hi_1 d_Gr_slotInBegun_58 ?_
  obtain ⟨v3_2, ev3_2, h⟩ := nm_e' h
  refine gd_topi ev3_2 ?_
  refine gd_istore_n X (lv' := [(3, .int v3_2), (0, .ref (a_self 0)), (1, .int v1)]) d_Gr_slotInBegun_59 rfl (by decide) rfl ?_
  refine gd_iload_n X d_Gr_slotInBegun_60 0 rfl ?_
  refine gd_iconst X (v := 4) d_Gr_slotInBegun_61 (by decide) ?_
  refine gd_icmp_lt X (tgt := 67) d_Gr_slotInBegun_62 (by decide) (fun c_3 => ?_) (fun c_3 => ?_)
  · replace h := it_p c_3 h
    refine gd_aload_n X d_Gr_slotInBegun_67 1 rfl ?_
    refine gd_get X (ci := 1) (C := R_Gr) (T := F_Gr) (N := 12) (v := .ref (a_self 7)) 0 0 rfl rfl rfl (in_Gr _) 11 (by decide) (List.mem_cons_of_mem _ fl_Gr_30) rfl rfl d_Gr_slotInBegun_68 ?_
    refine gd_aload_n X d_Gr_slotInBegun_71 1 rfl ?_
    refine gd_get X (ci := 1) (C := R_Gr) (T := F_Gr) (N := 12) (v := .int (s_self 0 2)) 0 0 rfl rfl rfl (in_Gr _) 2 (by decide) (List.mem_cons_of_mem _ fl_Gr_37) rfl rfl d_Gr_slotInBegun_72 ?_
    refine gd_iconst X (v := 4) d_Gr_slotInBegun_75 (by decide) ?_
    refine gd_imul X d_Gr_slotInBegun_76 ?_
    refine gd_iload_n X d_Gr_slotInBegun_77 0 rfl ?_
    refine gd_iadd X d_Gr_slotInBegun_78 ?_
    refine gd_aload_n X d_Gr_slotInBegun_79 1 rfl ?_
    refine gd_get X (ci := 1) (C := R_Gr) (T := F_Gr) (N := 12) (v := .ref (a_self 1)) 0 0 rfl rfl rfl (in_Gr _) 5 (by decide) (List.mem_cons_of_mem _ fl_Gr_9) rfl rfl d_Gr_slotInBegun_80 ?_
    refine gd_iconst X (v := (-1)) d_Gr_slotInBegun_83 (by decide) ?_
    refine gd_iload_n X d_Gr_slotInBegun_84 2 rfl ?_
    refine gd_isub X d_Gr_slotInBegun_85 ?_
    obtain ⟨hi_4, h⟩ := ck_e h
    refine gd_iald X 0 1 0 rfl rfl rfl hi_4 d_Gr_slotInBegun_86 ?_
    obtain ⟨hi_5, h⟩ := ck_e h
    obtain ⟨s_self_6, es_self_6, h⟩ := nm_e' h
    refine gd_iast X (w' := [wd_Gr K a_self s_self_6]) 0 7 0 rfl rfl rfl hi_5 d_Gr_slotInBegun_87 (by rw [es_self_6]; rfl) ?_
    refine gd_aload_n X d_Gr_slotInBegun_88 1 rfl ?_
    refine gd_get X (ci := 1) (C := R_Gr) (T := F_Gr) (N := 12) (v := .ref (a_self 6)) 0 0 rfl rfl rfl (in_Gr _) 10 (by decide) (List.mem_cons_of_mem _ fl_Gr_27) rfl rfl d_Gr_slotInBegun_89 ?_
    refine gd_aload_n X d_Gr_slotInBegun_92 1 rfl ?_
    refine gd_get X (ci := 1) (C := R_Gr) (T := F_Gr) (N := 12) (v := .int (s_self_6 0 2)) 0 0 rfl rfl rfl (in_Gr _) 2 (by decide) (List.mem_cons_of_mem _ fl_Gr_37) rfl rfl d_Gr_slotInBegun_93 ?_
    refine gd_iload_n X d_Gr_slotInBegun_96 0 rfl ?_
    refine gd_iconst X (v := 1) d_Gr_slotInBegun_97 (by decide) ?_
    refine gd_iadd X d_Gr_slotInBegun_98 ?_
    obtain ⟨hi_7, h⟩ := ck_e h
    obtain ⟨s_self_8, es_self_8, h⟩ := nm_e' h
    refine gd_iast X (w' := [wd_Gr K a_self s_self_8]) 0 6 0 rfl rfl rfl hi_7 d_Gr_slotInBegun_99 (by rw [es_self_8]; rfl) ?_
    refine gd_iload_n X d_Gr_slotInBegun_100 0 rfl ?_
    cases h
    exact gd_iret X hr hlk d_Gr_slotInBegun_101
  · replace h := it_n c_3 h
    refine gd_iconst X (v := (-1)) d_Gr_slotInBegun_65 (by decide) ?_
    cases h
    exact gd_iret X hr hlk d_Gr_slotInBegun_66
def l_Gr_slotInBegun_10 (N : Nat) (s_self : Nat → Nat → Int32) (v1 v2 : Int32) (kx35 : Int32 → Option ((Int32) × (Nat → Nat → Int32))) (kx50 : Option ((Int32) × (Nat → Nat → Int32))) : Nat → Int32 → Option ((Int32) × (Nat → Nat → Int32))
  | 0, _ => none
  | n + 1, v3 => f_Gr_slotInBegun_10 N (l_Gr_slotInBegun_10 N s_self v1 v2 kx35 kx50 n) kx35 kx50 s_self v1 v2 v3
set_option maxHeartbeats 4000000 in
set_option maxRecDepth 100000 in
theorem tl_Gr_slotInBegun_10 {p : Program} {l : Launch} {e : Env} {s : State} {m : MethodId} {args : Array Value} {below : List Frame} {meth : Method} {c : Code} {A : Nat → Prop} {D : va_G} {K : Nat → ClassId} (a_self : Nat → Nat) (X : gx p s m args c b_Gr_slotInBegun 4 R_Gr w_Gr_slotInBegun D classes (tyK K) A) (hr : meth.sig.returnType = some .int) (hlk : meth.locks = false) (N : Nat) (r : Int32) (f_self : Nat → Nat → Int32) (s_self : Nat → Nat → Int32) (v1 v2 : Int32) (kx35 : Int32 → Option ((Int32) × (Nat → Nat → Int32))) (hkx35 : ∀ (v3 : Int32), kx35 v3 = some (r, f_self) → Gd p l e rm_Gr_slotInBegun s m args below meth c 0 0 (MQ below (sq D classes (tyK K) (some (.int r)) [wd_Gr K a_self f_self] A) args s 0 0 A) D classes A 4 35 [wd_Gr K a_self s_self] [(0, .ref (a_self 0)), (2, .int v2), (3, .int v3)] []) (kx50 : Option ((Int32) × (Nat → Nat → Int32))) (hkx50 : kx50 = some (r, f_self) → Gd p l e rm_Gr_slotInBegun s m args below meth c 0 0 (MQ below (sq D classes (tyK K) (some (.int r)) [wd_Gr K a_self f_self] A) args s 0 0 A) D classes A 4 50 [wd_Gr K a_self s_self] [(0, .ref (a_self 0)), (1, .int v1)] []) : ∀ (n : Nat) (v3 : Int32), l_Gr_slotInBegun_10 N s_self v1 v2 kx35 kx50 n v3 = some (r, f_self) → Gd p l e rm_Gr_slotInBegun s m args below meth c 0 0 (MQ below (sq D classes (tyK K) (some (.int r)) [wd_Gr K a_self f_self] A) args s 0 0 A) D classes A 4 10 [wd_Gr K a_self s_self] [(0, .ref (a_self 0)), (1, .int v1), (2, .int v2), (3, .int v3)] [] := by
  intro n
  induction n with
  | zero => intro v3 h; have h : (none : Option ((Int32) × (Nat → Nat → Int32))) = some _ := h; cases h
  | succ n ih =>
    intro v3 h
    exact t_Gr_slotInBegun_10 a_self X hr hlk N r f_self s_self v1 v2 v3 (l_Gr_slotInBegun_10 N s_self v1 v2 kx35 kx50 n) ih kx35 hkx35 kx50 hkx50 h
def f_Gr_slotInBegun_0 (N : Nat) (s_self : Nat → Nat → Int32) (v1 : Int32) : Option ((Int32) × (Nat → Nat → Int32)) :=
  nm ((s_self 0 2) * 8) fun v2_1 =>
  l_Gr_slotInBegun_10 N s_self v1 v2_1 (fun v3 => f_Gr_slotInBegun_35 N s_self v2_1 v3) (f_Gr_slotInBegun_50 N s_self v1) N 0
set_option maxHeartbeats 4000000 in
set_option maxRecDepth 100000 in
theorem t_Gr_slotInBegun_0 {p : Program} {l : Launch} {e : Env} {s : State} {m : MethodId} {args : Array Value} {below : List Frame} {meth : Method} {c : Code} {A : Nat → Prop} {D : va_G} {K : Nat → ClassId} (a_self : Nat → Nat) (X : gx p s m args c b_Gr_slotInBegun 4 R_Gr w_Gr_slotInBegun D classes (tyK K) A) (hr : meth.sig.returnType = some .int) (hlk : meth.locks = false) (N : Nat) (r : Int32) (f_self : Nat → Nat → Int32) (s_self : Nat → Nat → Int32) (v1 : Int32) (h : f_Gr_slotInBegun_0 N s_self v1 = some (r, f_self)) : Gd p l e rm_Gr_slotInBegun s m args below meth c 0 0 (MQ below (sq D classes (tyK K) (some (.int r)) [wd_Gr K a_self f_self] A) args s 0 0 A) D classes A 4 0 [wd_Gr K a_self s_self] [(0, .ref (a_self 0)), (1, .int v1)] [] := by
  unfold f_Gr_slotInBegun_0 at h
  refine gd_aload_n X d_Gr_slotInBegun_0 0 rfl ?_
  refine gd_get X (ci := 1) (C := R_Gr) (T := F_Gr) (N := 12) (v := .int (s_self 0 2)) 0 0 rfl rfl rfl (in_Gr _) 2 (by decide) (List.mem_cons_of_mem _ fl_Gr_37) rfl rfl d_Gr_slotInBegun_1 ?_
  refine gd_bipush X (v := 8) d_Gr_slotInBegun_4 (by decide) ?_
  refine gd_imul X d_Gr_slotInBegun_6 ?_
  obtain ⟨v2_1, ev2_1, h⟩ := nm_e' h
  refine gd_topi ev2_1 ?_
  refine gd_istore_n X (lv' := [(2, .int v2_1), (0, .ref (a_self 0)), (1, .int v1)]) d_Gr_slotInBegun_7 rfl (by decide) rfl ?_
  refine gd_iconst X (v := 0) d_Gr_slotInBegun_8 (by decide) ?_
  refine gd_istore_n X (lv' := [(3, .int 0), (2, .int v2_1), (0, .ref (a_self 0)), (1, .int v1)]) d_Gr_slotInBegun_9 rfl (by decide) rfl ?_
  refine gd_loc (lv' := [(0, .ref (a_self 0)), (1, .int v1), (2, .int v2_1), (3, .int 0)]) [2, 3, 1, 0] rfl ?_
  exact tl_Gr_slotInBegun_10 a_self X hr hlk N r f_self s_self v1 v2_1 (fun v3 => f_Gr_slotInBegun_35 N s_self v2_1 v3) (fun v3 h => t_Gr_slotInBegun_35 a_self X hr hlk N r f_self s_self v2_1 v3 h) (f_Gr_slotInBegun_50 N s_self v1) (fun h => t_Gr_slotInBegun_50 a_self X hr hlk N r f_self s_self v1 h) N 0 h
def m_Gr_slotInBegun (N : Nat) (s_self : Nat → Nat → Int32) (v1 : Int32) : Option ((Int32) × (Nat → Nat → Int32)) := f_Gr_slotInBegun_0 N s_self v1
set_option maxHeartbeats 4000000 in
set_option maxRecDepth 100000 in
theorem c_Gr_slotInBegun (l : Launch) (D : va_G) (K : Nat → ClassId) (a_self : Nat → Nat) (N : Nat) (s_self : Nat → Nat → Int32) (v1 : Int32) (r : Int32) (f_self : Nat → Nat → Int32) (h : m_Gr_slotInBegun N s_self v1 = some (r, f_self)) : SMet l y_Gr_slotInBegun w_Gr_slotInBegun rm_Gr_slotInBegun D classes (tyK K) [.ref (a_self 0), .int v1] (some (.int r)) [wd_Gr K a_self s_self] [wd_Gr K a_self f_self] := by
  refine sm_of R_Gr (by decide) rfl rfl (Nat.le_of_ble_eq_true rfl) ?_
  intro p e s m below meth c A X hr hlk
  refine gd_loc (lv' := [(0, .ref (a_self 0)), (1, .int v1)]) [0, 1] rfl ?_
  exact t_Gr_slotInBegun_0 a_self X hr hlk N r f_self s_self v1 h
