abbrev b_Md_compare : ByteArray := prog_10_method_14_code
def y_Md_compare : MethodName := ⟨R_Md, "compare", "(I)I"⟩
def w_Md_compare : List Cond := .code y_Md_compare b_Md_compare 7 (some .int) :: TB
theorem k_Md_compare : Cond.code y_Md_compare b_Md_compare 7 (some .int) ∈ TB := tb_of 905 (by decide +kernel) (by decide +kernel)
theorem d_Md_compare_0 : decode b_Md_compare 0 = .ok (.aload_n 0, 1) := by decide +kernel
theorem d_Md_compare_1 : decode b_Md_compare 1 = .ok (.getfield 35, 3) := by decide +kernel
theorem d_Md_compare_4 : decode b_Md_compare 4 = .ok (.iload_n 1, 1) := by decide +kernel
theorem d_Md_compare_5 : decode b_Md_compare 5 = .ok (.iaload, 1) := by decide +kernel
theorem d_Md_compare_6 : decode b_Md_compare 6 = .ok (.istore_n 2, 1) := by decide +kernel
theorem d_Md_compare_7 : decode b_Md_compare 7 = .ok (.iload_n 2, 1) := by decide +kernel
theorem d_Md_compare_8 : decode b_Md_compare 8 = .ok (.ifCond .eq 11, 3) := by decide +kernel
theorem d_Md_compare_11 : decode b_Md_compare 11 = .ok (.aload_n 0, 1) := by decide +kernel
theorem d_Md_compare_12 : decode b_Md_compare 12 = .ok (.getfield 119, 3) := by decide +kernel
theorem d_Md_compare_15 : decode b_Md_compare 15 = .ok (.iload_n 2, 1) := by decide +kernel
theorem d_Md_compare_16 : decode b_Md_compare 16 = .ok (.if_icmp .ge 5, 3) := by decide +kernel
theorem d_Md_compare_19 : decode b_Md_compare 19 = .ok (.iconst 1, 1) := by decide +kernel
theorem d_Md_compare_20 : decode b_Md_compare 20 = .ok (.ireturn, 1) := by decide +kernel
theorem d_Md_compare_21 : decode b_Md_compare 21 = .ok (.aload_n 0, 1) := by decide +kernel
theorem d_Md_compare_22 : decode b_Md_compare 22 = .ok (.getfield 119, 3) := by decide +kernel
theorem d_Md_compare_25 : decode b_Md_compare 25 = .ok (.iload_n 2, 1) := by decide +kernel
theorem d_Md_compare_26 : decode b_Md_compare 26 = .ok (.if_icmp .le 7, 3) := by decide +kernel
theorem d_Md_compare_29 : decode b_Md_compare 29 = .ok (.iconst (-1), 1) := by decide +kernel
theorem d_Md_compare_30 : decode b_Md_compare 30 = .ok (.goto 4, 3) := by decide +kernel
theorem d_Md_compare_33 : decode b_Md_compare 33 = .ok (.iconst 0, 1) := by decide +kernel
theorem d_Md_compare_34 : decode b_Md_compare 34 = .ok (.istore_n 3, 1) := by decide +kernel
theorem d_Md_compare_35 : decode b_Md_compare 35 = .ok (.iconst 0, 1) := by decide +kernel
theorem d_Md_compare_36 : decode b_Md_compare 36 = .ok (.istore 4, 2) := by decide +kernel
theorem d_Md_compare_38 : decode b_Md_compare 38 = .ok (.iload 4, 2) := by decide +kernel
theorem d_Md_compare_40 : decode b_Md_compare 40 = .ok (.iload_n 2, 1) := by decide +kernel
theorem d_Md_compare_41 : decode b_Md_compare 41 = .ok (.if_icmp .ge 61, 3) := by decide +kernel
theorem d_Md_compare_44 : decode b_Md_compare 44 = .ok (.iload_n 3, 1) := by decide +kernel
theorem d_Md_compare_45 : decode b_Md_compare 45 = .ok (.ifCond .ne 57, 3) := by decide +kernel
theorem d_Md_compare_48 : decode b_Md_compare 48 = .ok (.aload_n 0, 1) := by decide +kernel
theorem d_Md_compare_49 : decode b_Md_compare 49 = .ok (.getfield 42, 3) := by decide +kernel
theorem d_Md_compare_52 : decode b_Md_compare 52 = .ok (.iload 4, 2) := by decide +kernel
theorem d_Md_compare_54 : decode b_Md_compare 54 = .ok (.iaload, 1) := by decide +kernel
theorem d_Md_compare_55 : decode b_Md_compare 55 = .ok (.istore 5, 2) := by decide +kernel
theorem d_Md_compare_57 : decode b_Md_compare 57 = .ok (.aload_n 0, 1) := by decide +kernel
theorem d_Md_compare_58 : decode b_Md_compare 58 = .ok (.getfield 39, 3) := by decide +kernel
theorem d_Md_compare_61 : decode b_Md_compare 61 = .ok (.sipush 200, 3) := by decide +kernel
theorem d_Md_compare_64 : decode b_Md_compare 64 = .ok (.iload_n 1, 1) := by decide +kernel
theorem d_Md_compare_65 : decode b_Md_compare 65 = .ok (.imul, 1) := by decide +kernel
theorem d_Md_compare_66 : decode b_Md_compare 66 = .ok (.iload 4, 2) := by decide +kernel
theorem d_Md_compare_68 : decode b_Md_compare 68 = .ok (.iadd, 1) := by decide +kernel
theorem d_Md_compare_69 : decode b_Md_compare 69 = .ok (.iaload, 1) := by decide +kernel
theorem d_Md_compare_70 : decode b_Md_compare 70 = .ok (.istore 6, 2) := by decide +kernel
theorem d_Md_compare_72 : decode b_Md_compare 72 = .ok (.iload 5, 2) := by decide +kernel
theorem d_Md_compare_74 : decode b_Md_compare 74 = .ok (.iload 6, 2) := by decide +kernel
theorem d_Md_compare_76 : decode b_Md_compare 76 = .ok (.if_icmp .ge 7, 3) := by decide +kernel
theorem d_Md_compare_79 : decode b_Md_compare 79 = .ok (.iconst 1, 1) := by decide +kernel
theorem d_Md_compare_80 : decode b_Md_compare 80 = .ok (.goto 15, 3) := by decide +kernel
theorem d_Md_compare_83 : decode b_Md_compare 83 = .ok (.iload 5, 2) := by decide +kernel
theorem d_Md_compare_85 : decode b_Md_compare 85 = .ok (.iload 6, 2) := by decide +kernel
theorem d_Md_compare_87 : decode b_Md_compare 87 = .ok (.if_icmp .le 7, 3) := by decide +kernel
theorem d_Md_compare_90 : decode b_Md_compare 90 = .ok (.iconst (-1), 1) := by decide +kernel
theorem d_Md_compare_91 : decode b_Md_compare 91 = .ok (.goto 4, 3) := by decide +kernel
theorem d_Md_compare_94 : decode b_Md_compare 94 = .ok (.iconst 0, 1) := by decide +kernel
theorem d_Md_compare_95 : decode b_Md_compare 95 = .ok (.istore_n 3, 1) := by decide +kernel
theorem d_Md_compare_96 : decode b_Md_compare 96 = .ok (.iinc 4 1, 3) := by decide +kernel
theorem d_Md_compare_99 : decode b_Md_compare 99 = .ok (.goto (-61), 3) := by decide +kernel
theorem d_Md_compare_102 : decode b_Md_compare 102 = .ok (.iload_n 3, 1) := by decide +kernel
theorem d_Md_compare_103 : decode b_Md_compare 103 = .ok (.ireturn, 1) := by decide +kernel
theorem fl_Md_42 : Cond.fieldLink R_Md 42 "RuleTreesModel" "draft" "[I" ∈ TB := tb_of 738 (by decide +kernel) (by decide +kernel)
theorem fl_Md_39 : Cond.fieldLink R_Md 39 "RuleTreesModel" "trees" "[I" ∈ TB := tb_of 737 (by decide +kernel) (by decide +kernel)
theorem fl_Md_35 : Cond.fieldLink R_Md 35 "RuleTreesModel" "sizes" "[I" ∈ TB := tb_of 736 (by decide +kernel) (by decide +kernel)
theorem fl_Md_119 : Cond.fieldLink R_Md 119 "RuleTreesModel" "drafted" "I" ∈ TB := tb_of 739 (by decide +kernel) (by decide +kernel)
abbrev rm_Md_compare : Room := { frames := 0, cells := 0, slots := 0, locals := 0 }
def f_Md_compare_38 (N : Nat) (kb : Int32 → Int32 → Option ((Int32))) (kx102 : Int32 → Option ((Int32))) (s_self : Nat → Nat → Int32) (v1 v2 v3 v4 : Int32) : Option ((Int32)) :=
  if v2 ≤ v4 then
    kx102 v3
  else
    if v3 = 0 then
      ck v4 1000 <|
      nm (s_self 10 (Int32.toNatClampNeg v4)) fun v5_4 =>
      ck ((200 * v1) + v4) 374400 <|
      nm (s_self 9 (Int32.toNatClampNeg ((200 * v1) + v4))) fun v6_6 =>
      if v6_6 ≤ v5_4 then
        if v5_4 ≤ v6_6 then
          nm (v4 + 1) fun v4_9 =>
          kb 0 v4_9
        else
          nm (v4 + 1) fun v4_10 =>
          kb (-1) v4_10
      else
        nm (v4 + 1) fun v4_11 =>
        kb 1 v4_11
    else
      kx102 v3
set_option maxHeartbeats 4000000 in
set_option maxRecDepth 100000 in
theorem t_Md_compare_38 {p : Program} {l : Launch} {e : Env} {s : State} {m : MethodId} {args : Array Value} {below : List Frame} {meth : Method} {c : Code} {A : Nat → Prop} {D : va_G} {K : Nat → ClassId} (a_self a_least : Nat → Nat) (X : gx p s m args c b_Md_compare 7 R_Md w_Md_compare D classes (tyK K) A) (hr : meth.sig.returnType = some .int) (hlk : meth.locks = false) (N : Nat) (r : Int32) (s_self : Nat → Nat → Int32) (v1 v2 v3 v4 : Int32) (kb : Int32 → Int32 → Option ((Int32))) (hkb : ∀ (v3 v4 : Int32), kb v3 v4 = some r → Gd p l e rm_Md_compare s m args below meth c 0 0 (MQ below (sq D classes (tyK K) (some (.int r)) [wd_Md K a_self (a_least 0) s_self] A) args s 0 0 A) D classes A 7 38 [wd_Md K a_self (a_least 0) s_self] [(0, .ref (a_self 0)), (1, .int v1), (2, .int v2), (3, .int v3), (4, .int v4)] []) (kx102 : Int32 → Option ((Int32))) (hkx102 : ∀ (v3 : Int32), kx102 v3 = some r → Gd p l e rm_Md_compare s m args below meth c 0 0 (MQ below (sq D classes (tyK K) (some (.int r)) [wd_Md K a_self (a_least 0) s_self] A) args s 0 0 A) D classes A 7 102 [wd_Md K a_self (a_least 0) s_self] [(3, .int v3)] []) (h : f_Md_compare_38 N kb kx102 s_self v1 v2 v3 v4 = some r) : Gd p l e rm_Md_compare s m args below meth c 0 0 (MQ below (sq D classes (tyK K) (some (.int r)) [wd_Md K a_self (a_least 0) s_self] A) args s 0 0 A) D classes A 7 38 [wd_Md K a_self (a_least 0) s_self] [(0, .ref (a_self 0)), (1, .int v1), (2, .int v2), (3, .int v3), (4, .int v4)] [] := by
  unfold f_Md_compare_38 at h
  refine gd_iload X d_Md_compare_38 4 rfl ?_
  refine gd_iload_n X d_Md_compare_40 2 rfl ?_
  refine gd_icmp_ge X (tgt := 102) d_Md_compare_41 (by decide) (fun c_1 => ?_) (fun c_1 => ?_)
  · replace h := it_p c_1 h
    refine gd_loc (lv' := [(3, .int v3)]) [3] rfl ?_
    exact hkx102 v3 h
  · replace h := it_n c_1 h
    refine gd_iload_n X d_Md_compare_44 3 rfl ?_
    refine gd_if_ne X (tgt := 102) d_Md_compare_45 (by decide) (fun c_2 => ?_) (fun c_2 => ?_)
    · replace h := it_n c_2 h
      refine gd_loc (lv' := [(3, .int v3)]) [3] rfl ?_
      exact hkx102 v3 h
    · replace h := it_p c_2 h
      refine gd_aload_n X d_Md_compare_48 0 rfl ?_
      refine gd_get X (ci := 7) (C := R_Md) (T := F_Md) (N := 36) (v := .ref (a_self 10)) 0 0 rfl rfl rfl (in_Md _) 18 (by decide) (List.mem_cons_of_mem _ fl_Md_42) rfl rfl d_Md_compare_49 ?_
      refine gd_iload X d_Md_compare_52 4 rfl ?_
      obtain ⟨hi_3, h⟩ := ck_e h
      refine gd_iald X 0 10 0 rfl rfl rfl hi_3 d_Md_compare_54 ?_
      obtain ⟨v5_4, ev5_4, h⟩ := nm_e' h
      refine gd_topi ev5_4 ?_
      refine gd_istore X (lv' := [(5, .int v5_4), (0, .ref (a_self 0)), (1, .int v1), (2, .int v2), (3, .int v3), (4, .int v4)]) d_Md_compare_55 (by decide) rfl ?_
      refine gd_aload_n X d_Md_compare_57 1 rfl ?_
      refine gd_get X (ci := 7) (C := R_Md) (T := F_Md) (N := 36) (v := .ref (a_self 9)) 0 0 rfl rfl rfl (in_Md _) 17 (by decide) (List.mem_cons_of_mem _ fl_Md_39) rfl rfl d_Md_compare_58 ?_
      refine gd_sipush X (v := 200) d_Md_compare_61 (by decide) ?_
      refine gd_iload_n X d_Md_compare_64 2 rfl ?_
      refine gd_imul X d_Md_compare_65 ?_
      refine gd_iload X d_Md_compare_66 5 rfl ?_
      refine gd_iadd X d_Md_compare_68 ?_
      obtain ⟨hi_5, h⟩ := ck_e h
      refine gd_iald X 0 9 0 rfl rfl rfl hi_5 d_Md_compare_69 ?_
      obtain ⟨v6_6, ev6_6, h⟩ := nm_e' h
      refine gd_topi ev6_6 ?_
      refine gd_istore X (lv' := [(6, .int v6_6), (5, .int v5_4), (0, .ref (a_self 0)), (1, .int v1), (2, .int v2), (3, .int v3), (4, .int v4)]) d_Md_compare_70 (by decide) rfl ?_
      refine gd_iload X d_Md_compare_72 1 rfl ?_
      refine gd_iload X d_Md_compare_74 0 rfl ?_
      refine gd_icmp_ge X (tgt := 83) d_Md_compare_76 (by decide) (fun c_7 => ?_) (fun c_7 => ?_)
      · replace h := it_p c_7 h
        refine gd_iload X d_Md_compare_83 1 rfl ?_
        refine gd_iload X d_Md_compare_85 0 rfl ?_
        refine gd_icmp_le X (tgt := 94) d_Md_compare_87 (by decide) (fun c_8 => ?_) (fun c_8 => ?_)
        · replace h := it_p c_8 h
          refine gd_iconst X (v := 0) d_Md_compare_94 (by decide) ?_
          refine gd_istore_n X (lv' := [(3, .int 0), (6, .int v6_6), (5, .int v5_4), (0, .ref (a_self 0)), (1, .int v1), (2, .int v2), (4, .int v4)]) d_Md_compare_95 rfl (by decide) rfl ?_
          obtain ⟨v4_9, ev4_9, h⟩ := nm_e' h
          refine gd_iinc X (v := v4_9) (lv' := [(4, .int v4_9), (3, .int 0), (6, .int v6_6), (5, .int v5_4), (0, .ref (a_self 0)), (1, .int v1), (2, .int v2)]) d_Md_compare_96 (k := 6) rfl (by rw [ev4_9]; rfl) (by decide) rfl ?_
          refine gd_goto X (tgt := 38) d_Md_compare_99 (by decide) ?_
          refine gd_loc (lv' := [(0, .ref (a_self 0)), (1, .int v1), (2, .int v2), (3, .int 0), (4, .int v4_9)]) [4, 5, 6, 1, 0] rfl ?_
          exact hkb 0 v4_9 h
        · replace h := it_n c_8 h
          refine gd_iconst X (v := (-1)) d_Md_compare_90 (by decide) ?_
          refine gd_goto X (tgt := 95) d_Md_compare_91 (by decide) ?_
          refine gd_istore_n X (lv' := [(3, .int (-1)), (6, .int v6_6), (5, .int v5_4), (0, .ref (a_self 0)), (1, .int v1), (2, .int v2), (4, .int v4)]) d_Md_compare_95 rfl (by decide) rfl ?_
          obtain ⟨v4_10, ev4_10, h⟩ := nm_e' h
          refine gd_iinc X (v := v4_10) (lv' := [(4, .int v4_10), (3, .int (-1)), (6, .int v6_6), (5, .int v5_4), (0, .ref (a_self 0)), (1, .int v1), (2, .int v2)]) d_Md_compare_96 (k := 6) rfl (by rw [ev4_10]; rfl) (by decide) rfl ?_
          refine gd_goto X (tgt := 38) d_Md_compare_99 (by decide) ?_
          refine gd_loc (lv' := [(0, .ref (a_self 0)), (1, .int v1), (2, .int v2), (3, .int (-1)), (4, .int v4_10)]) [4, 5, 6, 1, 0] rfl ?_
          exact hkb (-1) v4_10 h
      · replace h := it_n c_7 h
        refine gd_iconst X (v := 1) d_Md_compare_79 (by decide) ?_
        refine gd_goto X (tgt := 95) d_Md_compare_80 (by decide) ?_
        refine gd_istore_n X (lv' := [(3, .int 1), (6, .int v6_6), (5, .int v5_4), (0, .ref (a_self 0)), (1, .int v1), (2, .int v2), (4, .int v4)]) d_Md_compare_95 rfl (by decide) rfl ?_
        obtain ⟨v4_11, ev4_11, h⟩ := nm_e' h
        refine gd_iinc X (v := v4_11) (lv' := [(4, .int v4_11), (3, .int 1), (6, .int v6_6), (5, .int v5_4), (0, .ref (a_self 0)), (1, .int v1), (2, .int v2)]) d_Md_compare_96 (k := 6) rfl (by rw [ev4_11]; rfl) (by decide) rfl ?_
        refine gd_goto X (tgt := 38) d_Md_compare_99 (by decide) ?_
        refine gd_loc (lv' := [(0, .ref (a_self 0)), (1, .int v1), (2, .int v2), (3, .int 1), (4, .int v4_11)]) [4, 5, 6, 1, 0] rfl ?_
        exact hkb 1 v4_11 h
def f_Md_compare_102 (N : Nat) (s_self : Nat → Nat → Int32) (v3 : Int32) : Option ((Int32)) :=
  some (v3)
set_option maxHeartbeats 4000000 in
set_option maxRecDepth 100000 in
theorem t_Md_compare_102 {p : Program} {l : Launch} {e : Env} {s : State} {m : MethodId} {args : Array Value} {below : List Frame} {meth : Method} {c : Code} {A : Nat → Prop} {D : va_G} {K : Nat → ClassId} (a_self a_least : Nat → Nat) (X : gx p s m args c b_Md_compare 7 R_Md w_Md_compare D classes (tyK K) A) (hr : meth.sig.returnType = some .int) (hlk : meth.locks = false) (N : Nat) (r : Int32) (s_self : Nat → Nat → Int32) (v3 : Int32) (h : f_Md_compare_102 N s_self v3 = some r) : Gd p l e rm_Md_compare s m args below meth c 0 0 (MQ below (sq D classes (tyK K) (some (.int r)) [wd_Md K a_self (a_least 0) s_self] A) args s 0 0 A) D classes A 7 102 [wd_Md K a_self (a_least 0) s_self] [(3, .int v3)] [] := by
  unfold f_Md_compare_102 at h
  refine gd_iload_n X d_Md_compare_102 0 rfl ?_
  cases h
  exact gd_iret X hr hlk d_Md_compare_103
def l_Md_compare_38 (N : Nat) (s_self : Nat → Nat → Int32) (v1 v2 : Int32) (kx102 : Int32 → Option ((Int32))) : Nat → Int32 → Int32 → Option ((Int32))
  | 0, _, _ => none
  | n + 1, v3, v4 => f_Md_compare_38 N (l_Md_compare_38 N s_self v1 v2 kx102 n) kx102 s_self v1 v2 v3 v4
set_option maxHeartbeats 4000000 in
set_option maxRecDepth 100000 in
theorem tl_Md_compare_38 {p : Program} {l : Launch} {e : Env} {s : State} {m : MethodId} {args : Array Value} {below : List Frame} {meth : Method} {c : Code} {A : Nat → Prop} {D : va_G} {K : Nat → ClassId} (a_self a_least : Nat → Nat) (X : gx p s m args c b_Md_compare 7 R_Md w_Md_compare D classes (tyK K) A) (hr : meth.sig.returnType = some .int) (hlk : meth.locks = false) (N : Nat) (r : Int32) (s_self : Nat → Nat → Int32) (v1 v2 : Int32) (kx102 : Int32 → Option ((Int32))) (hkx102 : ∀ (v3 : Int32), kx102 v3 = some r → Gd p l e rm_Md_compare s m args below meth c 0 0 (MQ below (sq D classes (tyK K) (some (.int r)) [wd_Md K a_self (a_least 0) s_self] A) args s 0 0 A) D classes A 7 102 [wd_Md K a_self (a_least 0) s_self] [(3, .int v3)] []) : ∀ (n : Nat) (v3 v4 : Int32), l_Md_compare_38 N s_self v1 v2 kx102 n v3 v4 = some r → Gd p l e rm_Md_compare s m args below meth c 0 0 (MQ below (sq D classes (tyK K) (some (.int r)) [wd_Md K a_self (a_least 0) s_self] A) args s 0 0 A) D classes A 7 38 [wd_Md K a_self (a_least 0) s_self] [(0, .ref (a_self 0)), (1, .int v1), (2, .int v2), (3, .int v3), (4, .int v4)] [] := by
  intro n
  induction n with
  | zero => intro v3 v4 h; have h : (none : Option ((Int32))) = some _ := h; cases h
  | succ n ih =>
    intro v3 v4 h
    exact t_Md_compare_38 a_self a_least X hr hlk N r s_self v1 v2 v3 v4 (l_Md_compare_38 N s_self v1 v2 kx102 n) ih kx102 hkx102 h
def f_Md_compare_0 (N : Nat) (s_self : Nat → Nat → Int32) (v1 : Int32) : Option ((Int32)) :=
  ck v1 1872 <|
  nm (s_self 8 (Int32.toNatClampNeg v1)) fun v2_2 =>
  if v2_2 = 0 then
    some (1)
  else
    if v2_2 ≤ (s_self 0 19) then
      if (s_self 0 19) ≤ v2_2 then
        l_Md_compare_38 N s_self v1 v2_2 (fun v3 => f_Md_compare_102 N s_self v3) N 0 0
      else
        l_Md_compare_38 N s_self v1 v2_2 (fun v3 => f_Md_compare_102 N s_self v3) N (-1) 0
    else
      some (1)
set_option maxHeartbeats 4000000 in
set_option maxRecDepth 100000 in
theorem t_Md_compare_0 {p : Program} {l : Launch} {e : Env} {s : State} {m : MethodId} {args : Array Value} {below : List Frame} {meth : Method} {c : Code} {A : Nat → Prop} {D : va_G} {K : Nat → ClassId} (a_self a_least : Nat → Nat) (X : gx p s m args c b_Md_compare 7 R_Md w_Md_compare D classes (tyK K) A) (hr : meth.sig.returnType = some .int) (hlk : meth.locks = false) (N : Nat) (r : Int32) (s_self : Nat → Nat → Int32) (v1 : Int32) (h : f_Md_compare_0 N s_self v1 = some r) : Gd p l e rm_Md_compare s m args below meth c 0 0 (MQ below (sq D classes (tyK K) (some (.int r)) [wd_Md K a_self (a_least 0) s_self] A) args s 0 0 A) D classes A 7 0 [wd_Md K a_self (a_least 0) s_self] [(0, .ref (a_self 0)), (1, .int v1)] [] := by
  unfold f_Md_compare_0 at h
  refine gd_aload_n X d_Md_compare_0 0 rfl ?_
  refine gd_get X (ci := 7) (C := R_Md) (T := F_Md) (N := 36) (v := .ref (a_self 8)) 0 0 rfl rfl rfl (in_Md _) 16 (by decide) (List.mem_cons_of_mem _ fl_Md_35) rfl rfl d_Md_compare_1 ?_
  refine gd_iload_n X d_Md_compare_4 1 rfl ?_
  obtain ⟨hi_1, h⟩ := ck_e h
  refine gd_iald X 0 8 0 rfl rfl rfl hi_1 d_Md_compare_5 ?_
  obtain ⟨v2_2, ev2_2, h⟩ := nm_e' h
  refine gd_topi ev2_2 ?_
  refine gd_istore_n X (lv' := [(2, .int v2_2), (0, .ref (a_self 0)), (1, .int v1)]) d_Md_compare_6 rfl (by decide) rfl ?_
  refine gd_iload_n X d_Md_compare_7 0 rfl ?_
  refine gd_if_eq X (tgt := 19) d_Md_compare_8 (by decide) (fun c_3 => ?_) (fun c_3 => ?_)
  · replace h := it_p c_3 h
    refine gd_iconst X (v := 1) d_Md_compare_19 (by decide) ?_
    cases h
    exact gd_iret X hr hlk d_Md_compare_20
  · replace h := it_n c_3 h
    refine gd_aload_n X d_Md_compare_11 1 rfl ?_
    refine gd_get X (ci := 7) (C := R_Md) (T := F_Md) (N := 36) (v := .int (s_self 0 19)) 0 0 rfl rfl rfl (in_Md _) 19 (by decide) (List.mem_cons_of_mem _ fl_Md_119) rfl rfl d_Md_compare_12 ?_
    refine gd_iload_n X d_Md_compare_15 0 rfl ?_
    refine gd_icmp_ge X (tgt := 21) d_Md_compare_16 (by decide) (fun c_4 => ?_) (fun c_4 => ?_)
    · replace h := it_p c_4 h
      refine gd_aload_n X d_Md_compare_21 1 rfl ?_
      refine gd_get X (ci := 7) (C := R_Md) (T := F_Md) (N := 36) (v := .int (s_self 0 19)) 0 0 rfl rfl rfl (in_Md _) 19 (by decide) (List.mem_cons_of_mem _ fl_Md_119) rfl rfl d_Md_compare_22 ?_
      refine gd_iload_n X d_Md_compare_25 0 rfl ?_
      refine gd_icmp_le X (tgt := 33) d_Md_compare_26 (by decide) (fun c_5 => ?_) (fun c_5 => ?_)
      · replace h := it_p c_5 h
        refine gd_iconst X (v := 0) d_Md_compare_33 (by decide) ?_
        refine gd_istore_n X (lv' := [(3, .int 0), (2, .int v2_2), (0, .ref (a_self 0)), (1, .int v1)]) d_Md_compare_34 rfl (by decide) rfl ?_
        refine gd_iconst X (v := 0) d_Md_compare_35 (by decide) ?_
        refine gd_istore X (lv' := [(4, .int 0), (3, .int 0), (2, .int v2_2), (0, .ref (a_self 0)), (1, .int v1)]) d_Md_compare_36 (by decide) rfl ?_
        refine gd_loc (lv' := [(0, .ref (a_self 0)), (1, .int v1), (2, .int v2_2), (3, .int 0), (4, .int 0)]) [3, 4, 2, 1, 0] rfl ?_
        exact tl_Md_compare_38 a_self a_least X hr hlk N r s_self v1 v2_2 (fun v3 => f_Md_compare_102 N s_self v3) (fun v3 h => t_Md_compare_102 a_self a_least X hr hlk N r s_self v3 h) N 0 0 h
      · replace h := it_n c_5 h
        refine gd_iconst X (v := (-1)) d_Md_compare_29 (by decide) ?_
        refine gd_goto X (tgt := 34) d_Md_compare_30 (by decide) ?_
        refine gd_istore_n X (lv' := [(3, .int (-1)), (2, .int v2_2), (0, .ref (a_self 0)), (1, .int v1)]) d_Md_compare_34 rfl (by decide) rfl ?_
        refine gd_iconst X (v := 0) d_Md_compare_35 (by decide) ?_
        refine gd_istore X (lv' := [(4, .int 0), (3, .int (-1)), (2, .int v2_2), (0, .ref (a_self 0)), (1, .int v1)]) d_Md_compare_36 (by decide) rfl ?_
        refine gd_loc (lv' := [(0, .ref (a_self 0)), (1, .int v1), (2, .int v2_2), (3, .int (-1)), (4, .int 0)]) [3, 4, 2, 1, 0] rfl ?_
        exact tl_Md_compare_38 a_self a_least X hr hlk N r s_self v1 v2_2 (fun v3 => f_Md_compare_102 N s_self v3) (fun v3 h => t_Md_compare_102 a_self a_least X hr hlk N r s_self v3 h) N (-1) 0 h
    · replace h := it_n c_4 h
      refine gd_iconst X (v := 1) d_Md_compare_19 (by decide) ?_
      cases h
      exact gd_iret X hr hlk d_Md_compare_20
def m_Md_compare (N : Nat) (s_self : Nat → Nat → Int32) (v1 : Int32) : Option ((Int32)) := f_Md_compare_0 N s_self v1
set_option maxHeartbeats 4000000 in
set_option maxRecDepth 100000 in
theorem c_Md_compare (l : Launch) (D : va_G) (K : Nat → ClassId) (a_self a_least : Nat → Nat) (N : Nat) (s_self : Nat → Nat → Int32) (v1 : Int32) (r : Int32) (h : m_Md_compare N s_self v1 = some r) : SMet l y_Md_compare w_Md_compare rm_Md_compare D classes (tyK K) [.ref (a_self 0), .int v1] (some (.int r)) [wd_Md K a_self (a_least 0) s_self] [wd_Md K a_self (a_least 0) s_self] := by
  refine sm_of R_Md (by decide) rfl rfl (Nat.le_of_ble_eq_true rfl) ?_
  intro p e s m below meth c A X hr hlk
  refine gd_loc (lv' := [(0, .ref (a_self 0)), (1, .int v1)]) [0, 1] rfl ?_
  exact t_Md_compare_0 a_self a_least X hr hlk N r s_self v1 h
abbrev b_Md_keepDraft : ByteArray := prog_10_method_15_code
def y_Md_keepDraft : MethodName := ⟨R_Md, "keepDraft", "(I)V"⟩
def w_Md_keepDraft : List Cond := .code y_Md_keepDraft b_Md_keepDraft 3 none :: TB
theorem k_Md_keepDraft : Cond.code y_Md_keepDraft b_Md_keepDraft 3 none ∈ TB := tb_of 909 (by decide +kernel) (by decide +kernel)
theorem d_Md_keepDraft_0 : decode b_Md_keepDraft 0 = .ok (.aload_n 0, 1) := by decide +kernel
theorem d_Md_keepDraft_1 : decode b_Md_keepDraft 1 = .ok (.getfield 35, 3) := by decide +kernel
theorem d_Md_keepDraft_4 : decode b_Md_keepDraft 4 = .ok (.iload_n 1, 1) := by decide +kernel
theorem d_Md_keepDraft_5 : decode b_Md_keepDraft 5 = .ok (.aload_n 0, 1) := by decide +kernel
theorem d_Md_keepDraft_6 : decode b_Md_keepDraft 6 = .ok (.getfield 119, 3) := by decide +kernel
theorem d_Md_keepDraft_9 : decode b_Md_keepDraft 9 = .ok (.iastore, 1) := by decide +kernel
theorem d_Md_keepDraft_10 : decode b_Md_keepDraft 10 = .ok (.iconst 0, 1) := by decide +kernel
theorem d_Md_keepDraft_11 : decode b_Md_keepDraft 11 = .ok (.istore_n 2, 1) := by decide +kernel
theorem d_Md_keepDraft_12 : decode b_Md_keepDraft 12 = .ok (.iload_n 2, 1) := by decide +kernel
theorem d_Md_keepDraft_13 : decode b_Md_keepDraft 13 = .ok (.aload_n 0, 1) := by decide +kernel
theorem d_Md_keepDraft_14 : decode b_Md_keepDraft 14 = .ok (.getfield 119, 3) := by decide +kernel
theorem d_Md_keepDraft_17 : decode b_Md_keepDraft 17 = .ok (.if_icmp .ge 27, 3) := by decide +kernel
theorem d_Md_keepDraft_20 : decode b_Md_keepDraft 20 = .ok (.aload_n 0, 1) := by decide +kernel
theorem d_Md_keepDraft_21 : decode b_Md_keepDraft 21 = .ok (.getfield 39, 3) := by decide +kernel
theorem d_Md_keepDraft_24 : decode b_Md_keepDraft 24 = .ok (.sipush 200, 3) := by decide +kernel
theorem d_Md_keepDraft_27 : decode b_Md_keepDraft 27 = .ok (.iload_n 1, 1) := by decide +kernel
theorem d_Md_keepDraft_28 : decode b_Md_keepDraft 28 = .ok (.imul, 1) := by decide +kernel
theorem d_Md_keepDraft_29 : decode b_Md_keepDraft 29 = .ok (.iload_n 2, 1) := by decide +kernel
theorem d_Md_keepDraft_30 : decode b_Md_keepDraft 30 = .ok (.iadd, 1) := by decide +kernel
theorem d_Md_keepDraft_31 : decode b_Md_keepDraft 31 = .ok (.aload_n 0, 1) := by decide +kernel
theorem d_Md_keepDraft_32 : decode b_Md_keepDraft 32 = .ok (.getfield 42, 3) := by decide +kernel
theorem d_Md_keepDraft_35 : decode b_Md_keepDraft 35 = .ok (.iload_n 2, 1) := by decide +kernel
theorem d_Md_keepDraft_36 : decode b_Md_keepDraft 36 = .ok (.iaload, 1) := by decide +kernel
theorem d_Md_keepDraft_37 : decode b_Md_keepDraft 37 = .ok (.iastore, 1) := by decide +kernel
theorem d_Md_keepDraft_38 : decode b_Md_keepDraft 38 = .ok (.iinc 2 1, 3) := by decide +kernel
theorem d_Md_keepDraft_41 : decode b_Md_keepDraft 41 = .ok (.goto (-29), 3) := by decide +kernel
theorem d_Md_keepDraft_44 : decode b_Md_keepDraft 44 = .ok (.return_, 1) := by decide +kernel
abbrev rm_Md_keepDraft : Room := { frames := 0, cells := 0, slots := 0, locals := 0 }
def f_Md_keepDraft_12 (N : Nat) (kb : (Nat → Nat → Int32) → Int32 → Option ((Nat → Nat → Int32))) (kx44 : (Nat → Nat → Int32) → Option ((Nat → Nat → Int32))) (s_self : Nat → Nat → Int32) (v1 v2 : Int32) : Option ((Nat → Nat → Int32)) :=
  if (s_self 0 19) ≤ v2 then
    kx44 s_self
  else
    ck v2 1000 <|
    ck ((200 * v1) + v2) 374400 <| nm (st2 s_self 9 (Int32.toNatClampNeg ((200 * v1) + v2)) (s_self 10 (Int32.toNatClampNeg v2))) fun s_self_4 =>
    nm (v2 + 1) fun v2_5 =>
    kb s_self_4 v2_5
set_option maxHeartbeats 4000000 in
set_option maxRecDepth 100000 in
theorem t_Md_keepDraft_12 {p : Program} {l : Launch} {e : Env} {s : State} {m : MethodId} {args : Array Value} {below : List Frame} {meth : Method} {c : Code} {A : Nat → Prop} {D : va_G} {K : Nat → ClassId} (a_self a_least : Nat → Nat) (X : gx p s m args c b_Md_keepDraft 3 R_Md w_Md_keepDraft D classes (tyK K) A) (hr : meth.sig.returnType = none) (hlk : meth.locks = false) (N : Nat) (f_self : Nat → Nat → Int32) (s_self : Nat → Nat → Int32) (v1 v2 : Int32) (kb : (Nat → Nat → Int32) → Int32 → Option ((Nat → Nat → Int32))) (hkb : ∀ (s_self : Nat → Nat → Int32) (v2 : Int32), kb s_self v2 = some f_self → Gd p l e rm_Md_keepDraft s m args below meth c 0 0 (MQ below (sq D classes (tyK K) none [wd_Md K a_self (a_least 0) f_self] A) args s 0 0 A) D classes A 3 12 [wd_Md K a_self (a_least 0) s_self] [(0, .ref (a_self 0)), (1, .int v1), (2, .int v2)] []) (kx44 : (Nat → Nat → Int32) → Option ((Nat → Nat → Int32))) (hkx44 : ∀ (s_self : Nat → Nat → Int32), kx44 s_self = some f_self → Gd p l e rm_Md_keepDraft s m args below meth c 0 0 (MQ below (sq D classes (tyK K) none [wd_Md K a_self (a_least 0) f_self] A) args s 0 0 A) D classes A 3 44 [wd_Md K a_self (a_least 0) s_self] [] []) (h : f_Md_keepDraft_12 N kb kx44 s_self v1 v2 = some f_self) : Gd p l e rm_Md_keepDraft s m args below meth c 0 0 (MQ below (sq D classes (tyK K) none [wd_Md K a_self (a_least 0) f_self] A) args s 0 0 A) D classes A 3 12 [wd_Md K a_self (a_least 0) s_self] [(0, .ref (a_self 0)), (1, .int v1), (2, .int v2)] [] := by
  unfold f_Md_keepDraft_12 at h
  refine gd_iload_n X d_Md_keepDraft_12 2 rfl ?_
  refine gd_aload_n X d_Md_keepDraft_13 0 rfl ?_
  refine gd_get X (ci := 7) (C := R_Md) (T := F_Md) (N := 36) (v := .int (s_self 0 19)) 0 0 rfl rfl rfl (in_Md _) 19 (by decide) (List.mem_cons_of_mem _ fl_Md_119) rfl rfl d_Md_keepDraft_14 ?_
  refine gd_icmp_ge X (tgt := 44) d_Md_keepDraft_17 (by decide) (fun c_1 => ?_) (fun c_1 => ?_)
  · replace h := it_p c_1 h
    refine gd_loc (lv' := []) [] rfl ?_
    exact hkx44 s_self h
  · replace h := it_n c_1 h
    refine gd_aload_n X d_Md_keepDraft_20 0 rfl ?_
    refine gd_get X (ci := 7) (C := R_Md) (T := F_Md) (N := 36) (v := .ref (a_self 9)) 0 0 rfl rfl rfl (in_Md _) 17 (by decide) (List.mem_cons_of_mem _ fl_Md_39) rfl rfl d_Md_keepDraft_21 ?_
    refine gd_sipush X (v := 200) d_Md_keepDraft_24 (by decide) ?_
    refine gd_iload_n X d_Md_keepDraft_27 1 rfl ?_
    refine gd_imul X d_Md_keepDraft_28 ?_
    refine gd_iload_n X d_Md_keepDraft_29 2 rfl ?_
    refine gd_iadd X d_Md_keepDraft_30 ?_
    refine gd_aload_n X d_Md_keepDraft_31 0 rfl ?_
    refine gd_get X (ci := 7) (C := R_Md) (T := F_Md) (N := 36) (v := .ref (a_self 10)) 0 0 rfl rfl rfl (in_Md _) 18 (by decide) (List.mem_cons_of_mem _ fl_Md_42) rfl rfl d_Md_keepDraft_32 ?_
    refine gd_iload_n X d_Md_keepDraft_35 2 rfl ?_
    obtain ⟨hi_2, h⟩ := ck_e h
    refine gd_iald X 0 10 0 rfl rfl rfl hi_2 d_Md_keepDraft_36 ?_
    obtain ⟨hi_3, h⟩ := ck_e h
    obtain ⟨s_self_4, es_self_4, h⟩ := nm_e' h
    refine gd_iast X (w' := [wd_Md K a_self (a_least 0) s_self_4]) 0 9 0 rfl rfl rfl hi_3 d_Md_keepDraft_37 (by rw [es_self_4]; rfl) ?_
    obtain ⟨v2_5, ev2_5, h⟩ := nm_e' h
    refine gd_iinc X (v := v2_5) (lv' := [(2, .int v2_5), (0, .ref (a_self 0)), (1, .int v1)]) d_Md_keepDraft_38 (k := 2) rfl (by rw [ev2_5]; rfl) (by decide) rfl ?_
    refine gd_goto X (tgt := 12) d_Md_keepDraft_41 (by decide) ?_
    refine gd_loc (lv' := [(0, .ref (a_self 0)), (1, .int v1), (2, .int v2_5)]) [1, 2, 0] rfl ?_
    exact hkb s_self_4 v2_5 h
def f_Md_keepDraft_44 (N : Nat) (s_self : Nat → Nat → Int32) : Option ((Nat → Nat → Int32)) :=
  some s_self
set_option maxHeartbeats 4000000 in
set_option maxRecDepth 100000 in
theorem t_Md_keepDraft_44 {p : Program} {l : Launch} {e : Env} {s : State} {m : MethodId} {args : Array Value} {below : List Frame} {meth : Method} {c : Code} {A : Nat → Prop} {D : va_G} {K : Nat → ClassId} (a_self a_least : Nat → Nat) (X : gx p s m args c b_Md_keepDraft 3 R_Md w_Md_keepDraft D classes (tyK K) A) (hr : meth.sig.returnType = none) (hlk : meth.locks = false) (N : Nat) (f_self : Nat → Nat → Int32) (s_self : Nat → Nat → Int32) (h : f_Md_keepDraft_44 N s_self = some f_self) : Gd p l e rm_Md_keepDraft s m args below meth c 0 0 (MQ below (sq D classes (tyK K) none [wd_Md K a_self (a_least 0) f_self] A) args s 0 0 A) D classes A 3 44 [wd_Md K a_self (a_least 0) s_self] [] [] := by
  unfold f_Md_keepDraft_44 at h
  cases h
  exact gd_vret X hr hlk d_Md_keepDraft_44
def l_Md_keepDraft_12 (N : Nat) (v1 : Int32) (kx44 : (Nat → Nat → Int32) → Option ((Nat → Nat → Int32))) : Nat → (Nat → Nat → Int32) → Int32 → Option ((Nat → Nat → Int32))
  | 0, _, _ => none
  | n + 1, s_self, v2 => f_Md_keepDraft_12 N (l_Md_keepDraft_12 N v1 kx44 n) kx44 s_self v1 v2
set_option maxHeartbeats 4000000 in
set_option maxRecDepth 100000 in
theorem tl_Md_keepDraft_12 {p : Program} {l : Launch} {e : Env} {s : State} {m : MethodId} {args : Array Value} {below : List Frame} {meth : Method} {c : Code} {A : Nat → Prop} {D : va_G} {K : Nat → ClassId} (a_self a_least : Nat → Nat) (X : gx p s m args c b_Md_keepDraft 3 R_Md w_Md_keepDraft D classes (tyK K) A) (hr : meth.sig.returnType = none) (hlk : meth.locks = false) (N : Nat) (f_self : Nat → Nat → Int32) (v1 : Int32) (kx44 : (Nat → Nat → Int32) → Option ((Nat → Nat → Int32))) (hkx44 : ∀ (s_self : Nat → Nat → Int32), kx44 s_self = some f_self → Gd p l e rm_Md_keepDraft s m args below meth c 0 0 (MQ below (sq D classes (tyK K) none [wd_Md K a_self (a_least 0) f_self] A) args s 0 0 A) D classes A 3 44 [wd_Md K a_self (a_least 0) s_self] [] []) : ∀ (n : Nat) (s_self : Nat → Nat → Int32) (v2 : Int32), l_Md_keepDraft_12 N v1 kx44 n s_self v2 = some f_self → Gd p l e rm_Md_keepDraft s m args below meth c 0 0 (MQ below (sq D classes (tyK K) none [wd_Md K a_self (a_least 0) f_self] A) args s 0 0 A) D classes A 3 12 [wd_Md K a_self (a_least 0) s_self] [(0, .ref (a_self 0)), (1, .int v1), (2, .int v2)] [] := by
  intro n
  induction n with
  | zero => intro s_self v2 h; have h : (none : Option ((Nat → Nat → Int32))) = some _ := h; cases h
  | succ n ih =>
    intro s_self v2 h
    exact t_Md_keepDraft_12 a_self a_least X hr hlk N f_self s_self v1 v2 (l_Md_keepDraft_12 N v1 kx44 n) ih kx44 hkx44 h
def f_Md_keepDraft_0 (N : Nat) (s_self : Nat → Nat → Int32) (v1 : Int32) : Option ((Nat → Nat → Int32)) :=
  ck v1 1872 <| nm (st2 s_self 8 (Int32.toNatClampNeg v1) (s_self 0 19)) fun s_self_2 =>
  l_Md_keepDraft_12 N v1 (fun s_self => f_Md_keepDraft_44 N s_self) N s_self_2 0
set_option maxHeartbeats 4000000 in
set_option maxRecDepth 100000 in
theorem t_Md_keepDraft_0 {p : Program} {l : Launch} {e : Env} {s : State} {m : MethodId} {args : Array Value} {below : List Frame} {meth : Method} {c : Code} {A : Nat → Prop} {D : va_G} {K : Nat → ClassId} (a_self a_least : Nat → Nat) (X : gx p s m args c b_Md_keepDraft 3 R_Md w_Md_keepDraft D classes (tyK K) A) (hr : meth.sig.returnType = none) (hlk : meth.locks = false) (N : Nat) (f_self : Nat → Nat → Int32) (s_self : Nat → Nat → Int32) (v1 : Int32) (h : f_Md_keepDraft_0 N s_self v1 = some f_self) : Gd p l e rm_Md_keepDraft s m args below meth c 0 0 (MQ below (sq D classes (tyK K) none [wd_Md K a_self (a_least 0) f_self] A) args s 0 0 A) D classes A 3 0 [wd_Md K a_self (a_least 0) s_self] [(0, .ref (a_self 0)), (1, .int v1)] [] := by
  unfold f_Md_keepDraft_0 at h
  refine gd_aload_n X d_Md_keepDraft_0 0 rfl ?_
  refine gd_get X (ci := 7) (C := R_Md) (T := F_Md) (N := 36) (v := .ref (a_self 8)) 0 0 rfl rfl rfl (in_Md _) 16 (by decide) (List.mem_cons_of_mem _ fl_Md_35) rfl rfl d_Md_keepDraft_1 ?_
  refine gd_iload_n X d_Md_keepDraft_4 1 rfl ?_
  refine gd_aload_n X d_Md_keepDraft_5 0 rfl ?_
  refine gd_get X (ci := 7) (C := R_Md) (T := F_Md) (N := 36) (v := .int (s_self 0 19)) 0 0 rfl rfl rfl (in_Md _) 19 (by decide) (List.mem_cons_of_mem _ fl_Md_119) rfl rfl d_Md_keepDraft_6 ?_
  obtain ⟨hi_1, h⟩ := ck_e h
  obtain ⟨s_self_2, es_self_2, h⟩ := nm_e' h
  refine gd_iast X (w' := [wd_Md K a_self (a_least 0) s_self_2]) 0 8 0 rfl rfl rfl hi_1 d_Md_keepDraft_9 (by rw [es_self_2]; rfl) ?_
  refine gd_iconst X (v := 0) d_Md_keepDraft_10 (by decide) ?_
  refine gd_istore_n X (lv' := [(2, .int 0), (0, .ref (a_self 0)), (1, .int v1)]) d_Md_keepDraft_11 rfl (by decide) rfl ?_
  refine gd_loc (lv' := [(0, .ref (a_self 0)), (1, .int v1), (2, .int 0)]) [1, 2, 0] rfl ?_
  exact tl_Md_keepDraft_12 a_self a_least X hr hlk N f_self v1 (fun s_self => f_Md_keepDraft_44 N s_self) (fun s_self h => t_Md_keepDraft_44 a_self a_least X hr hlk N f_self s_self h) N s_self_2 0 h
def m_Md_keepDraft (N : Nat) (s_self : Nat → Nat → Int32) (v1 : Int32) : Option ((Nat → Nat → Int32)) := f_Md_keepDraft_0 N s_self v1
set_option maxHeartbeats 4000000 in
set_option maxRecDepth 100000 in
theorem c_Md_keepDraft (l : Launch) (D : va_G) (K : Nat → ClassId) (a_self a_least : Nat → Nat) (N : Nat) (s_self : Nat → Nat → Int32) (v1 : Int32) (f_self : Nat → Nat → Int32) (h : m_Md_keepDraft N s_self v1 = some f_self) : SMet l y_Md_keepDraft w_Md_keepDraft rm_Md_keepDraft D classes (tyK K) [.ref (a_self 0), .int v1] none [wd_Md K a_self (a_least 0) s_self] [wd_Md K a_self (a_least 0) f_self] := by
  refine sm_of R_Md (by decide) rfl rfl (Nat.le_of_ble_eq_true rfl) ?_
  intro p e s m below meth c A X hr hlk
  refine gd_loc (lv' := [(0, .ref (a_self 0)), (1, .int v1)]) [0, 1] rfl ?_
  exact t_Md_keepDraft_0 a_self a_least X hr hlk N f_self s_self v1 h
