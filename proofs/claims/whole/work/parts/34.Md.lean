abbrev b_Md_offer : ByteArray := prog_10_method_16_code
def y_Md_offer : MethodName := ⟨R_Md, "offer", "(I)Z"⟩
def w_Md_offer : List Cond := .code y_Md_offer b_Md_offer 5 (some .boolean) :: TB
theorem k_Md_offer : Cond.code y_Md_offer b_Md_offer 5 (some .boolean) ∈ TB := tb_of 901 (by decide +kernel) (by decide +kernel)
theorem d_Md_offer_0 : decode b_Md_offer 0 = .ok (.aload_n 0, 1) := by decide +kernel
theorem d_Md_offer_1 : decode b_Md_offer 1 = .ok (.getfield 119, 3) := by decide +kernel
theorem d_Md_offer_4 : decode b_Md_offer 4 = .ok (.sipush 200, 3) := by decide +kernel
theorem d_Md_offer_7 : decode b_Md_offer 7 = .ok (.if_icmp .le 5, 3) := by decide +kernel
theorem d_Md_offer_10 : decode b_Md_offer 10 = .ok (.iconst 0, 1) := by decide +kernel
theorem d_Md_offer_11 : decode b_Md_offer 11 = .ok (.ireturn, 1) := by decide +kernel
theorem d_Md_offer_12 : decode b_Md_offer 12 = .ok (.aload_n 0, 1) := by decide +kernel
theorem d_Md_offer_13 : decode b_Md_offer 13 = .ok (.iconst 2, 1) := by decide +kernel
theorem d_Md_offer_14 : decode b_Md_offer 14 = .ok (.iload_n 1, 1) := by decide +kernel
theorem d_Md_offer_15 : decode b_Md_offer 15 = .ok (.imul, 1) := by decide +kernel
theorem d_Md_offer_16 : decode b_Md_offer 16 = .ok (.invokevirtual 122, 3) := by decide +kernel
theorem d_Md_offer_19 : decode b_Md_offer 19 = .ok (.istore_n 2, 1) := by decide +kernel
theorem d_Md_offer_20 : decode b_Md_offer 20 = .ok (.aload_n 0, 1) := by decide +kernel
theorem d_Md_offer_21 : decode b_Md_offer 21 = .ok (.iconst 2, 1) := by decide +kernel
theorem d_Md_offer_22 : decode b_Md_offer 22 = .ok (.iload_n 1, 1) := by decide +kernel
theorem d_Md_offer_23 : decode b_Md_offer 23 = .ok (.imul, 1) := by decide +kernel
theorem d_Md_offer_24 : decode b_Md_offer 24 = .ok (.iconst 1, 1) := by decide +kernel
theorem d_Md_offer_25 : decode b_Md_offer 25 = .ok (.iadd, 1) := by decide +kernel
theorem d_Md_offer_26 : decode b_Md_offer 26 = .ok (.invokevirtual 122, 3) := by decide +kernel
theorem d_Md_offer_29 : decode b_Md_offer 29 = .ok (.istore_n 3, 1) := by decide +kernel
theorem d_Md_offer_30 : decode b_Md_offer 30 = .ok (.iload_n 2, 1) := by decide +kernel
theorem d_Md_offer_31 : decode b_Md_offer 31 = .ok (.iconst 1, 1) := by decide +kernel
theorem d_Md_offer_32 : decode b_Md_offer 32 = .ok (.if_icmp .ne 82, 3) := by decide +kernel
theorem d_Md_offer_35 : decode b_Md_offer 35 = .ok (.aload_n 0, 1) := by decide +kernel
theorem d_Md_offer_36 : decode b_Md_offer 36 = .ok (.getfield 35, 3) := by decide +kernel
theorem d_Md_offer_39 : decode b_Md_offer 39 = .ok (.iconst 2, 1) := by decide +kernel
theorem d_Md_offer_40 : decode b_Md_offer 40 = .ok (.iload_n 1, 1) := by decide +kernel
theorem d_Md_offer_41 : decode b_Md_offer 41 = .ok (.imul, 1) := by decide +kernel
theorem d_Md_offer_42 : decode b_Md_offer 42 = .ok (.iconst 1, 1) := by decide +kernel
theorem d_Md_offer_43 : decode b_Md_offer 43 = .ok (.iadd, 1) := by decide +kernel
theorem d_Md_offer_44 : decode b_Md_offer 44 = .ok (.aload_n 0, 1) := by decide +kernel
theorem d_Md_offer_45 : decode b_Md_offer 45 = .ok (.getfield 35, 3) := by decide +kernel
theorem d_Md_offer_48 : decode b_Md_offer 48 = .ok (.iconst 2, 1) := by decide +kernel
theorem d_Md_offer_49 : decode b_Md_offer 49 = .ok (.iload_n 1, 1) := by decide +kernel
theorem d_Md_offer_50 : decode b_Md_offer 50 = .ok (.imul, 1) := by decide +kernel
theorem d_Md_offer_51 : decode b_Md_offer 51 = .ok (.iaload, 1) := by decide +kernel
theorem d_Md_offer_52 : decode b_Md_offer 52 = .ok (.iastore, 1) := by decide +kernel
theorem d_Md_offer_53 : decode b_Md_offer 53 = .ok (.iconst 0, 1) := by decide +kernel
theorem d_Md_offer_54 : decode b_Md_offer 54 = .ok (.istore 4, 2) := by decide +kernel
theorem d_Md_offer_56 : decode b_Md_offer 56 = .ok (.iload 4, 2) := by decide +kernel
theorem d_Md_offer_58 : decode b_Md_offer 58 = .ok (.aload_n 0, 1) := by decide +kernel
theorem d_Md_offer_59 : decode b_Md_offer 59 = .ok (.getfield 35, 3) := by decide +kernel
theorem d_Md_offer_62 : decode b_Md_offer 62 = .ok (.iconst 2, 1) := by decide +kernel
theorem d_Md_offer_63 : decode b_Md_offer 63 = .ok (.iload_n 1, 1) := by decide +kernel
theorem d_Md_offer_64 : decode b_Md_offer 64 = .ok (.imul, 1) := by decide +kernel
theorem d_Md_offer_65 : decode b_Md_offer 65 = .ok (.iaload, 1) := by decide +kernel
theorem d_Md_offer_66 : decode b_Md_offer 66 = .ok (.if_icmp .ge 39, 3) := by decide +kernel
theorem d_Md_offer_69 : decode b_Md_offer 69 = .ok (.aload_n 0, 1) := by decide +kernel
theorem d_Md_offer_70 : decode b_Md_offer 70 = .ok (.getfield 39, 3) := by decide +kernel
theorem d_Md_offer_73 : decode b_Md_offer 73 = .ok (.sipush 200, 3) := by decide +kernel
theorem d_Md_offer_76 : decode b_Md_offer 76 = .ok (.iconst 2, 1) := by decide +kernel
theorem d_Md_offer_77 : decode b_Md_offer 77 = .ok (.iload_n 1, 1) := by decide +kernel
theorem d_Md_offer_78 : decode b_Md_offer 78 = .ok (.imul, 1) := by decide +kernel
theorem d_Md_offer_79 : decode b_Md_offer 79 = .ok (.iconst 1, 1) := by decide +kernel
theorem d_Md_offer_80 : decode b_Md_offer 80 = .ok (.iadd, 1) := by decide +kernel
theorem d_Md_offer_81 : decode b_Md_offer 81 = .ok (.imul, 1) := by decide +kernel
theorem d_Md_offer_82 : decode b_Md_offer 82 = .ok (.iload 4, 2) := by decide +kernel
theorem d_Md_offer_84 : decode b_Md_offer 84 = .ok (.iadd, 1) := by decide +kernel
theorem d_Md_offer_85 : decode b_Md_offer 85 = .ok (.aload_n 0, 1) := by decide +kernel
theorem d_Md_offer_86 : decode b_Md_offer 86 = .ok (.getfield 39, 3) := by decide +kernel
theorem d_Md_offer_89 : decode b_Md_offer 89 = .ok (.sipush 400, 3) := by decide +kernel
theorem d_Md_offer_92 : decode b_Md_offer 92 = .ok (.iload_n 1, 1) := by decide +kernel
theorem d_Md_offer_93 : decode b_Md_offer 93 = .ok (.imul, 1) := by decide +kernel
theorem d_Md_offer_94 : decode b_Md_offer 94 = .ok (.iload 4, 2) := by decide +kernel
theorem d_Md_offer_96 : decode b_Md_offer 96 = .ok (.iadd, 1) := by decide +kernel
theorem d_Md_offer_97 : decode b_Md_offer 97 = .ok (.iaload, 1) := by decide +kernel
theorem d_Md_offer_98 : decode b_Md_offer 98 = .ok (.iastore, 1) := by decide +kernel
theorem d_Md_offer_99 : decode b_Md_offer 99 = .ok (.iinc 4 1, 3) := by decide +kernel
theorem d_Md_offer_102 : decode b_Md_offer 102 = .ok (.goto (-46), 3) := by decide +kernel
theorem d_Md_offer_105 : decode b_Md_offer 105 = .ok (.aload_n 0, 1) := by decide +kernel
theorem d_Md_offer_106 : decode b_Md_offer 106 = .ok (.iconst 2, 1) := by decide +kernel
theorem d_Md_offer_107 : decode b_Md_offer 107 = .ok (.iload_n 1, 1) := by decide +kernel
theorem d_Md_offer_108 : decode b_Md_offer 108 = .ok (.imul, 1) := by decide +kernel
theorem d_Md_offer_109 : decode b_Md_offer 109 = .ok (.invokevirtual 125, 3) := by decide +kernel
theorem d_Md_offer_112 : decode b_Md_offer 112 = .ok (.iconst 1, 1) := by decide +kernel
theorem d_Md_offer_113 : decode b_Md_offer 113 = .ok (.ireturn, 1) := by decide +kernel
theorem d_Md_offer_114 : decode b_Md_offer 114 = .ok (.iload_n 2, 1) := by decide +kernel
theorem d_Md_offer_115 : decode b_Md_offer 115 = .ok (.ifCond .eq 8, 3) := by decide +kernel
theorem d_Md_offer_118 : decode b_Md_offer 118 = .ok (.iload_n 3, 1) := by decide +kernel
theorem d_Md_offer_119 : decode b_Md_offer 119 = .ok (.iconst 1, 1) := by decide +kernel
theorem d_Md_offer_120 : decode b_Md_offer 120 = .ok (.if_icmp .eq 5, 3) := by decide +kernel
theorem d_Md_offer_123 : decode b_Md_offer 123 = .ok (.iconst 0, 1) := by decide +kernel
theorem d_Md_offer_124 : decode b_Md_offer 124 = .ok (.ireturn, 1) := by decide +kernel
theorem d_Md_offer_125 : decode b_Md_offer 125 = .ok (.aload_n 0, 1) := by decide +kernel
theorem d_Md_offer_126 : decode b_Md_offer 126 = .ok (.iconst 2, 1) := by decide +kernel
theorem d_Md_offer_127 : decode b_Md_offer 127 = .ok (.iload_n 1, 1) := by decide +kernel
theorem d_Md_offer_128 : decode b_Md_offer 128 = .ok (.imul, 1) := by decide +kernel
theorem d_Md_offer_129 : decode b_Md_offer 129 = .ok (.iconst 1, 1) := by decide +kernel
theorem d_Md_offer_130 : decode b_Md_offer 130 = .ok (.iadd, 1) := by decide +kernel
theorem d_Md_offer_131 : decode b_Md_offer 131 = .ok (.invokevirtual 125, 3) := by decide +kernel
theorem d_Md_offer_134 : decode b_Md_offer 134 = .ok (.iconst 1, 1) := by decide +kernel
theorem d_Md_offer_135 : decode b_Md_offer 135 = .ok (.ireturn, 1) := by decide +kernel
theorem ml_Md_125 : Cond.methodLink R_Md 125 ⟨"RuleTreesModel", "keepDraft", "(I)V"⟩ ∈ TB := tb_of 906 (by decide +kernel) (by decide +kernel)
theorem u_Md_keepDraft : (Cond.instanceMethod y_Md_keepDraft ∈ TB ∧ Cond.selects R_Md y_Md_keepDraft y_Md_keepDraft ∈ TB) ∧ Cond.initialized R_Md ∈ TB ∧ Cond.code y_Md_keepDraft b_Md_keepDraft 3 none ∈ TB := ⟨⟨(tb_of 908 (by decide +kernel) (by decide +kernel)), (tb_of 45 (by decide +kernel) (by decide +kernel))⟩, (tb_of 70 (by decide +kernel) (by decide +kernel)), k_Md_keepDraft⟩
theorem ml_Md_122 : Cond.methodLink R_Md 122 ⟨"RuleTreesModel", "compare", "(I)I"⟩ ∈ TB := tb_of 902 (by decide +kernel) (by decide +kernel)
theorem u_Md_compare : (Cond.instanceMethod y_Md_compare ∈ TB ∧ Cond.selects R_Md y_Md_compare y_Md_compare ∈ TB) ∧ Cond.initialized R_Md ∈ TB ∧ Cond.code y_Md_compare b_Md_compare 7 (some .int) ∈ TB := ⟨⟨(tb_of 904 (by decide +kernel) (by decide +kernel)), (tb_of 44 (by decide +kernel) (by decide +kernel))⟩, (tb_of 70 (by decide +kernel) (by decide +kernel)), k_Md_compare⟩
abbrev rm_Md_offer : Room := { frames := 1, cells := 0, slots := 0, locals := 26 }
def f_Md_offer_56 (N : Nat) (kb : (Nat → Nat → Int32) → Int32 → Option ((Int32) × (Nat → Nat → Int32))) (kx105 : (Nat → Nat → Int32) → Option ((Int32) × (Nat → Nat → Int32))) (s_self : Nat → Nat → Int32) (v1 v4 : Int32) : Option ((Int32) × (Nat → Nat → Int32)) :=
  ck (2 * v1) 1872 <|
  if (s_self 8 (Int32.toNatClampNeg (2 * v1))) ≤ v4 then
    kx105 s_self
  else
    ck ((400 * v1) + v4) 374400 <|
    ck ((200 * ((2 * v1) + 1)) + v4) 374400 <| nm (st2 s_self 9 (Int32.toNatClampNeg ((200 * ((2 * v1) + 1)) + v4)) (s_self 9 (Int32.toNatClampNeg ((400 * v1) + v4)))) fun s_self_5 =>
    nm (v4 + 1) fun v4_6 =>
    kb s_self_5 v4_6
set_option maxHeartbeats 4000000 in
set_option maxRecDepth 100000 in
theorem t_Md_offer_56 {p : Program} {l : Launch} {e : Env} {s : State} {m : MethodId} {args : Array Value} {below : List Frame} {meth : Method} {c : Code} {A : Nat → Prop} {D : va_G} {K : Nat → ClassId} (a_self a_least : Nat → Nat) (X : gx p s m args c b_Md_offer 5 R_Md w_Md_offer D classes (tyK K) A) (hr : meth.sig.returnType = some .boolean) (hlk : meth.locks = false) (N : Nat) (r : Int32) (f_self : Nat → Nat → Int32) (s_self : Nat → Nat → Int32) (v1 v4 : Int32) (kb : (Nat → Nat → Int32) → Int32 → Option ((Int32) × (Nat → Nat → Int32))) (hkb : ∀ (s_self : Nat → Nat → Int32) (v4 : Int32), kb s_self v4 = some (r, f_self) → Gd p l e rm_Md_offer s m args below meth c 0 0 (MQ below (sq D classes (tyK K) (some (.int r)) [wd_Md K a_self (a_least 0) f_self] A) args s 0 0 A) D classes A 5 56 [wd_Md K a_self (a_least 0) s_self] [(0, .ref (a_self 0)), (1, .int v1), (4, .int v4)] []) (kx105 : (Nat → Nat → Int32) → Option ((Int32) × (Nat → Nat → Int32))) (hkx105 : ∀ (s_self : Nat → Nat → Int32), kx105 s_self = some (r, f_self) → Gd p l e rm_Md_offer s m args below meth c 0 0 (MQ below (sq D classes (tyK K) (some (.int r)) [wd_Md K a_self (a_least 0) f_self] A) args s 0 0 A) D classes A 5 105 [wd_Md K a_self (a_least 0) s_self] [(0, .ref (a_self 0)), (1, .int v1)] []) (h : f_Md_offer_56 N kb kx105 s_self v1 v4 = some (r, f_self)) : Gd p l e rm_Md_offer s m args below meth c 0 0 (MQ below (sq D classes (tyK K) (some (.int r)) [wd_Md K a_self (a_least 0) f_self] A) args s 0 0 A) D classes A 5 56 [wd_Md K a_self (a_least 0) s_self] [(0, .ref (a_self 0)), (1, .int v1), (4, .int v4)] [] := by
  unfold f_Md_offer_56 at h
  refine gd_iload X d_Md_offer_56 2 rfl ?_
  refine gd_aload_n X d_Md_offer_58 0 rfl ?_
  refine gd_get X (ci := 7) (C := R_Md) (T := F_Md) (N := 36) (v := .ref (a_self 8)) 0 0 rfl rfl rfl (in_Md _) 16 (by decide) (List.mem_cons_of_mem _ fl_Md_35) rfl rfl d_Md_offer_59 ?_
  refine gd_iconst X (v := 2) d_Md_offer_62 (by decide) ?_
  refine gd_iload_n X d_Md_offer_63 1 rfl ?_
  refine gd_imul X d_Md_offer_64 ?_
  obtain ⟨hi_1, h⟩ := ck_e h
  refine gd_iald X 0 8 0 rfl rfl rfl hi_1 d_Md_offer_65 ?_
  refine gd_icmp_ge X (tgt := 105) d_Md_offer_66 (by decide) (fun c_2 => ?_) (fun c_2 => ?_)
  · replace h := it_p c_2 h
    refine gd_loc (lv' := [(0, .ref (a_self 0)), (1, .int v1)]) [0, 1] rfl ?_
    exact hkx105 s_self h
  · replace h := it_n c_2 h
    refine gd_aload_n X d_Md_offer_69 0 rfl ?_
    refine gd_get X (ci := 7) (C := R_Md) (T := F_Md) (N := 36) (v := .ref (a_self 9)) 0 0 rfl rfl rfl (in_Md _) 17 (by decide) (List.mem_cons_of_mem _ fl_Md_39) rfl rfl d_Md_offer_70 ?_
    refine gd_sipush X (v := 200) d_Md_offer_73 (by decide) ?_
    refine gd_iconst X (v := 2) d_Md_offer_76 (by decide) ?_
    refine gd_iload_n X d_Md_offer_77 1 rfl ?_
    refine gd_imul X d_Md_offer_78 ?_
    refine gd_iconst X (v := 1) d_Md_offer_79 (by decide) ?_
    refine gd_iadd X d_Md_offer_80 ?_
    refine gd_imul X d_Md_offer_81 ?_
    refine gd_iload X d_Md_offer_82 2 rfl ?_
    refine gd_iadd X d_Md_offer_84 ?_
    refine gd_aload_n X d_Md_offer_85 0 rfl ?_
    refine gd_get X (ci := 7) (C := R_Md) (T := F_Md) (N := 36) (v := .ref (a_self 9)) 0 0 rfl rfl rfl (in_Md _) 17 (by decide) (List.mem_cons_of_mem _ fl_Md_39) rfl rfl d_Md_offer_86 ?_
    refine gd_sipush X (v := 400) d_Md_offer_89 (by decide) ?_
    refine gd_iload_n X d_Md_offer_92 1 rfl ?_
    refine gd_imul X d_Md_offer_93 ?_
    refine gd_iload X d_Md_offer_94 2 rfl ?_
    refine gd_iadd X d_Md_offer_96 ?_
    obtain ⟨hi_3, h⟩ := ck_e h
    refine gd_iald X 0 9 0 rfl rfl rfl hi_3 d_Md_offer_97 ?_
    obtain ⟨hi_4, h⟩ := ck_e h
    obtain ⟨s_self_5, es_self_5, h⟩ := nm_e' h
    refine gd_iast X (w' := [wd_Md K a_self (a_least 0) s_self_5]) 0 9 0 rfl rfl rfl hi_4 d_Md_offer_98 (by rw [es_self_5]; rfl) ?_
    obtain ⟨v4_6, ev4_6, h⟩ := nm_e' h
    refine gd_iinc X (v := v4_6) (lv' := [(4, .int v4_6), (0, .ref (a_self 0)), (1, .int v1)]) d_Md_offer_99 (k := 2) rfl (by rw [ev4_6]; rfl) (by decide) rfl ?_
    refine gd_goto X (tgt := 56) d_Md_offer_102 (by decide) ?_
    refine gd_loc (lv' := [(0, .ref (a_self 0)), (1, .int v1), (4, .int v4_6)]) [1, 2, 0] rfl ?_
    exact hkb s_self_5 v4_6 h
def f_Md_offer_105 (N : Nat) (s_self : Nat → Nat → Int32) (v1 : Int32) : Option ((Int32) × (Nat → Nat → Int32)) :=
  bd1 (m_Md_keepDraft N s_self (2 * v1)) fun s_self_1 =>
  some ((1), s_self_1)
set_option maxHeartbeats 4000000 in
set_option maxRecDepth 100000 in
theorem t_Md_offer_105 {p : Program} {l : Launch} {e : Env} {s : State} {m : MethodId} {args : Array Value} {below : List Frame} {meth : Method} {c : Code} {A : Nat → Prop} {D : va_G} {K : Nat → ClassId} (a_self a_least : Nat → Nat) (X : gx p s m args c b_Md_offer 5 R_Md w_Md_offer D classes (tyK K) A) (hr : meth.sig.returnType = some .boolean) (hlk : meth.locks = false) (N : Nat) (r : Int32) (f_self : Nat → Nat → Int32) (s_self : Nat → Nat → Int32) (v1 : Int32) (h : f_Md_offer_105 N s_self v1 = some (r, f_self)) : Gd p l e rm_Md_offer s m args below meth c 0 0 (MQ below (sq D classes (tyK K) (some (.int r)) [wd_Md K a_self (a_least 0) f_self] A) args s 0 0 A) D classes A 5 105 [wd_Md K a_self (a_least 0) s_self] [(0, .ref (a_self 0)), (1, .int v1)] [] := by
  unfold f_Md_offer_105 at h
  refine gd_aload_n X d_Md_offer_105 0 rfl ?_
  refine gd_iconst X (v := 2) d_Md_offer_106 (by decide) ?_
  refine gd_iload_n X d_Md_offer_107 1 rfl ?_
  refine gd_imul X d_Md_offer_108 ?_
  obtain ⟨s_self_1, hc_2, h⟩ := bd1_e h
  refine gd_fv X (w1 := [wd_Md K a_self (a_least 0) s_self_1]) (gd_V X (As := [.int (2 * v1)]) (rest := []) (c_Md_keepDraft l D K a_self a_least N s_self (2 * v1) s_self_1 hc_2) 1 (gi_V ml_Md_125 u_Md_keepDraft) rfl ⟨rfl, rfl⟩ (by decide +kernel) ⟨by decide, by decide⟩ (ci := 7) rfl rfl rfl rfl rfl rfl (Nat.le_of_ble_eq_true rfl) ⟨Nat.zero_le _, Nat.zero_le _⟩ d_Md_offer_109) ?_
  refine gd_iconst X (v := 1) d_Md_offer_112 (by decide) ?_
  cases h
  exact gd_zret X hr hlk (by decide) d_Md_offer_113
def l_Md_offer_56 (N : Nat) (v1 : Int32) (kx105 : (Nat → Nat → Int32) → Option ((Int32) × (Nat → Nat → Int32))) : Nat → (Nat → Nat → Int32) → Int32 → Option ((Int32) × (Nat → Nat → Int32))
  | 0, _, _ => none
  | n + 1, s_self, v4 => f_Md_offer_56 N (l_Md_offer_56 N v1 kx105 n) kx105 s_self v1 v4
set_option maxHeartbeats 4000000 in
set_option maxRecDepth 100000 in
theorem tl_Md_offer_56 {p : Program} {l : Launch} {e : Env} {s : State} {m : MethodId} {args : Array Value} {below : List Frame} {meth : Method} {c : Code} {A : Nat → Prop} {D : va_G} {K : Nat → ClassId} (a_self a_least : Nat → Nat) (X : gx p s m args c b_Md_offer 5 R_Md w_Md_offer D classes (tyK K) A) (hr : meth.sig.returnType = some .boolean) (hlk : meth.locks = false) (N : Nat) (r : Int32) (f_self : Nat → Nat → Int32) (v1 : Int32) (kx105 : (Nat → Nat → Int32) → Option ((Int32) × (Nat → Nat → Int32))) (hkx105 : ∀ (s_self : Nat → Nat → Int32), kx105 s_self = some (r, f_self) → Gd p l e rm_Md_offer s m args below meth c 0 0 (MQ below (sq D classes (tyK K) (some (.int r)) [wd_Md K a_self (a_least 0) f_self] A) args s 0 0 A) D classes A 5 105 [wd_Md K a_self (a_least 0) s_self] [(0, .ref (a_self 0)), (1, .int v1)] []) : ∀ (n : Nat) (s_self : Nat → Nat → Int32) (v4 : Int32), l_Md_offer_56 N v1 kx105 n s_self v4 = some (r, f_self) → Gd p l e rm_Md_offer s m args below meth c 0 0 (MQ below (sq D classes (tyK K) (some (.int r)) [wd_Md K a_self (a_least 0) f_self] A) args s 0 0 A) D classes A 5 56 [wd_Md K a_self (a_least 0) s_self] [(0, .ref (a_self 0)), (1, .int v1), (4, .int v4)] [] := by
  intro n
  induction n with
  | zero => intro s_self v4 h; have h : (none : Option ((Int32) × (Nat → Nat → Int32))) = some _ := h; cases h
  | succ n ih =>
    intro s_self v4 h
    exact t_Md_offer_56 a_self a_least X hr hlk N r f_self s_self v1 v4 (l_Md_offer_56 N v1 kx105 n) ih kx105 hkx105 h
def f_Md_offer_0 (N : Nat) (s_self : Nat → Nat → Int32) (v1 : Int32) : Option ((Int32) × (Nat → Nat → Int32)) :=
  if (s_self 0 19) ≤ 200 then
    bd1 (m_Md_compare N s_self (2 * v1)) fun r_2 =>
    bd1 (m_Md_compare N s_self ((2 * v1) + 1)) fun r_4 =>
    if r_2 = 1 then
      ck (2 * v1) 1872 <|
      ck ((2 * v1) + 1) 1872 <| nm (st2 s_self 8 (Int32.toNatClampNeg ((2 * v1) + 1)) (s_self 8 (Int32.toNatClampNeg (2 * v1)))) fun s_self_13 =>
      l_Md_offer_56 N v1 (fun s_self => f_Md_offer_105 N s_self v1) N s_self_13 0
    else
      if r_2 = 0 then
        some ((0), s_self)
      else
        if r_4 = 1 then
          bd1 (m_Md_keepDraft N s_self ((2 * v1) + 1)) fun s_self_9 =>
          some ((1), s_self_9)
        else
          some ((0), s_self)
  else
    some ((0), s_self)
set_option maxHeartbeats 4000000 in
set_option maxRecDepth 100000 in
theorem t_Md_offer_0 {p : Program} {l : Launch} {e : Env} {s : State} {m : MethodId} {args : Array Value} {below : List Frame} {meth : Method} {c : Code} {A : Nat → Prop} {D : va_G} {K : Nat → ClassId} (a_self a_least : Nat → Nat) (X : gx p s m args c b_Md_offer 5 R_Md w_Md_offer D classes (tyK K) A) (hr : meth.sig.returnType = some .boolean) (hlk : meth.locks = false) (N : Nat) (r : Int32) (f_self : Nat → Nat → Int32) (s_self : Nat → Nat → Int32) (v1 : Int32) (h : f_Md_offer_0 N s_self v1 = some (r, f_self)) : Gd p l e rm_Md_offer s m args below meth c 0 0 (MQ below (sq D classes (tyK K) (some (.int r)) [wd_Md K a_self (a_least 0) f_self] A) args s 0 0 A) D classes A 5 0 [wd_Md K a_self (a_least 0) s_self] [(0, .ref (a_self 0)), (1, .int v1)] [] := by
  unfold f_Md_offer_0 at h
  refine gd_aload_n X d_Md_offer_0 0 rfl ?_
  refine gd_get X (ci := 7) (C := R_Md) (T := F_Md) (N := 36) (v := .int (s_self 0 19)) 0 0 rfl rfl rfl (in_Md _) 19 (by decide) (List.mem_cons_of_mem _ fl_Md_119) rfl rfl d_Md_offer_1 ?_
  refine gd_sipush X (v := 200) d_Md_offer_4 (by decide) ?_
  refine gd_icmp_le X (tgt := 12) d_Md_offer_7 (by decide) (fun c_1 => ?_) (fun c_1 => ?_)
  · replace h := it_p c_1 h
    refine gd_aload_n X d_Md_offer_12 0 rfl ?_
    refine gd_iconst X (v := 2) d_Md_offer_13 (by decide) ?_
    refine gd_iload_n X d_Md_offer_14 1 rfl ?_
    refine gd_imul X d_Md_offer_15 ?_
    obtain ⟨r_2, hc_3, h⟩ := bd1_e h
    refine gd_fI X (gd_V X (As := [.int (2 * v1)]) (rest := []) (c_Md_compare l D K a_self a_least N s_self (2 * v1) r_2 hc_3) 1 (gi_V ml_Md_122 u_Md_compare) rfl ⟨rfl, rfl⟩ (by decide +kernel) ⟨by decide, by decide⟩ (ci := 7) rfl rfl rfl rfl rfl rfl (Nat.le_of_ble_eq_true rfl) ⟨Nat.zero_le _, Nat.zero_le _⟩ d_Md_offer_16) ?_
    refine gd_istore_n X (lv' := [(2, .int r_2), (0, .ref (a_self 0)), (1, .int v1)]) d_Md_offer_19 rfl (by decide) rfl ?_
    refine gd_aload_n X d_Md_offer_20 1 rfl ?_
    refine gd_iconst X (v := 2) d_Md_offer_21 (by decide) ?_
    refine gd_iload_n X d_Md_offer_22 2 rfl ?_
    refine gd_imul X d_Md_offer_23 ?_
    refine gd_iconst X (v := 1) d_Md_offer_24 (by decide) ?_
    refine gd_iadd X d_Md_offer_25 ?_
    obtain ⟨r_4, hc_5, h⟩ := bd1_e h
    refine gd_fI X (gd_V X (As := [.int ((2 * v1) + 1)]) (rest := []) (c_Md_compare l D K a_self a_least N s_self ((2 * v1) + 1) r_4 hc_5) 1 (gi_V ml_Md_122 u_Md_compare) rfl ⟨rfl, rfl⟩ (by decide +kernel) ⟨by decide, by decide⟩ (ci := 7) rfl rfl rfl rfl rfl rfl (Nat.le_of_ble_eq_true rfl) ⟨Nat.zero_le _, Nat.zero_le _⟩ d_Md_offer_26) ?_
    refine gd_istore_n X (lv' := [(3, .int r_4), (2, .int r_2), (0, .ref (a_self 0)), (1, .int v1)]) d_Md_offer_29 rfl (by decide) rfl ?_
    refine gd_iload_n X d_Md_offer_30 1 rfl ?_
    refine gd_iconst X (v := 1) d_Md_offer_31 (by decide) ?_
    refine gd_icmp_ne X (tgt := 114) d_Md_offer_32 (by decide) (fun c_6 => ?_) (fun c_6 => ?_)
    · replace h := it_n c_6 h
      refine gd_iload_n X d_Md_offer_114 1 rfl ?_
      refine gd_if_eq X (tgt := 123) d_Md_offer_115 (by decide) (fun c_7 => ?_) (fun c_7 => ?_)
      · replace h := it_p c_7 h
        refine gd_iconst X (v := 0) d_Md_offer_123 (by decide) ?_
        cases h
        exact gd_zret X hr hlk (by decide) d_Md_offer_124
      · replace h := it_n c_7 h
        refine gd_iload_n X d_Md_offer_118 0 rfl ?_
        refine gd_iconst X (v := 1) d_Md_offer_119 (by decide) ?_
        refine gd_icmp_eq X (tgt := 125) d_Md_offer_120 (by decide) (fun c_8 => ?_) (fun c_8 => ?_)
        · replace h := it_p c_8 h
          refine gd_aload_n X d_Md_offer_125 2 rfl ?_
          refine gd_iconst X (v := 2) d_Md_offer_126 (by decide) ?_
          refine gd_iload_n X d_Md_offer_127 3 rfl ?_
          refine gd_imul X d_Md_offer_128 ?_
          refine gd_iconst X (v := 1) d_Md_offer_129 (by decide) ?_
          refine gd_iadd X d_Md_offer_130 ?_
          obtain ⟨s_self_9, hc_10, h⟩ := bd1_e h
          refine gd_fv X (w1 := [wd_Md K a_self (a_least 0) s_self_9]) (gd_V X (As := [.int ((2 * v1) + 1)]) (rest := []) (c_Md_keepDraft l D K a_self a_least N s_self ((2 * v1) + 1) s_self_9 hc_10) 1 (gi_V ml_Md_125 u_Md_keepDraft) rfl ⟨rfl, rfl⟩ (by decide +kernel) ⟨by decide, by decide⟩ (ci := 7) rfl rfl rfl rfl rfl rfl (Nat.le_of_ble_eq_true rfl) ⟨Nat.zero_le _, Nat.zero_le _⟩ d_Md_offer_131) ?_
          refine gd_iconst X (v := 1) d_Md_offer_134 (by decide) ?_
          cases h
          exact gd_zret X hr hlk (by decide) d_Md_offer_135
        · replace h := it_n c_8 h
          refine gd_iconst X (v := 0) d_Md_offer_123 (by decide) ?_
          cases h
          exact gd_zret X hr hlk (by decide) d_Md_offer_124
    · replace h := it_p c_6 h
      refine gd_aload_n X d_Md_offer_35 2 rfl ?_
      refine gd_get X (ci := 7) (C := R_Md) (T := F_Md) (N := 36) (v := .ref (a_self 8)) 0 0 rfl rfl rfl (in_Md _) 16 (by decide) (List.mem_cons_of_mem _ fl_Md_35) rfl rfl d_Md_offer_36 ?_
      refine gd_iconst X (v := 2) d_Md_offer_39 (by decide) ?_
      refine gd_iload_n X d_Md_offer_40 3 rfl ?_
      refine gd_imul X d_Md_offer_41 ?_
      refine gd_iconst X (v := 1) d_Md_offer_42 (by decide) ?_
      refine gd_iadd X d_Md_offer_43 ?_
      refine gd_aload_n X d_Md_offer_44 2 rfl ?_
      refine gd_get X (ci := 7) (C := R_Md) (T := F_Md) (N := 36) (v := .ref (a_self 8)) 0 0 rfl rfl rfl (in_Md _) 16 (by decide) (List.mem_cons_of_mem _ fl_Md_35) rfl rfl d_Md_offer_45 ?_
      refine gd_iconst X (v := 2) d_Md_offer_48 (by decide) ?_
      refine gd_iload_n X d_Md_offer_49 3 rfl ?_
      refine gd_imul X d_Md_offer_50 ?_
      obtain ⟨hi_11, h⟩ := ck_e h
      refine gd_iald X 0 8 0 rfl rfl rfl hi_11 d_Md_offer_51 ?_
      obtain ⟨hi_12, h⟩ := ck_e h
      obtain ⟨s_self_13, es_self_13, h⟩ := nm_e' h
      refine gd_iast X (w' := [wd_Md K a_self (a_least 0) s_self_13]) 0 8 0 rfl rfl rfl hi_12 d_Md_offer_52 (by rw [es_self_13]; rfl) ?_
      refine gd_iconst X (v := 0) d_Md_offer_53 (by decide) ?_
      refine gd_istore X (lv' := [(4, .int 0), (3, .int r_4), (2, .int r_2), (0, .ref (a_self 0)), (1, .int v1)]) d_Md_offer_54 (by decide) rfl ?_
      refine gd_loc (lv' := [(0, .ref (a_self 0)), (1, .int v1), (4, .int 0)]) [3, 4, 0] rfl ?_
      exact tl_Md_offer_56 a_self a_least X hr hlk N r f_self v1 (fun s_self => f_Md_offer_105 N s_self v1) (fun s_self h => t_Md_offer_105 a_self a_least X hr hlk N r f_self s_self v1 h) N s_self_13 0 h
  · replace h := it_n c_1 h
    refine gd_iconst X (v := 0) d_Md_offer_10 (by decide) ?_
    cases h
    exact gd_zret X hr hlk (by decide) d_Md_offer_11
def m_Md_offer (N : Nat) (s_self : Nat → Nat → Int32) (v1 : Int32) : Option ((Int32) × (Nat → Nat → Int32)) := f_Md_offer_0 N s_self v1
set_option maxHeartbeats 4000000 in
set_option maxRecDepth 100000 in
theorem c_Md_offer (l : Launch) (D : va_G) (K : Nat → ClassId) (a_self a_least : Nat → Nat) (N : Nat) (s_self : Nat → Nat → Int32) (v1 : Int32) (r : Int32) (f_self : Nat → Nat → Int32) (h : m_Md_offer N s_self v1 = some (r, f_self)) : SMet l y_Md_offer w_Md_offer rm_Md_offer D classes (tyK K) [.ref (a_self 0), .int v1] (some (.int r)) [wd_Md K a_self (a_least 0) s_self] [wd_Md K a_self (a_least 0) f_self] := by
  refine sm_of R_Md (by decide) rfl rfl (Nat.le_of_ble_eq_true rfl) ?_
  intro p e s m below meth c A X hr hlk
  refine gd_loc (lv' := [(0, .ref (a_self 0)), (1, .int v1)]) [0, 1] rfl ?_
  exact t_Md_offer_0 a_self a_least X hr hlk N r f_self s_self v1 h
abbrev b_Md_add : ByteArray := prog_10_method_17_code
def y_Md_add : MethodName := ⟨R_Md, "add", "(I)V"⟩
def w_Md_add : List Cond := .code y_Md_add b_Md_add 2 none :: TB
theorem k_Md_add : Cond.code y_Md_add b_Md_add 2 none ∈ TB := tb_of 897 (by decide +kernel) (by decide +kernel)
theorem d_Md_add_0 : decode b_Md_add 0 = .ok (.aload_n 0, 1) := by decide +kernel
theorem d_Md_add_1 : decode b_Md_add 1 = .ok (.getfield 42, 3) := by decide +kernel
theorem d_Md_add_4 : decode b_Md_add 4 = .ok (.aload_n 0, 1) := by decide +kernel
theorem d_Md_add_5 : decode b_Md_add 5 = .ok (.getfield 119, 3) := by decide +kernel
theorem d_Md_add_8 : decode b_Md_add 8 = .ok (.iload_n 1, 1) := by decide +kernel
theorem d_Md_add_9 : decode b_Md_add 9 = .ok (.iastore, 1) := by decide +kernel
theorem d_Md_add_10 : decode b_Md_add 10 = .ok (.aload_n 0, 1) := by decide +kernel
theorem d_Md_add_11 : decode b_Md_add 11 = .ok (.dup, 1) := by decide +kernel
theorem d_Md_add_12 : decode b_Md_add 12 = .ok (.getfield 119, 3) := by decide +kernel
theorem d_Md_add_15 : decode b_Md_add 15 = .ok (.iconst 1, 1) := by decide +kernel
theorem d_Md_add_16 : decode b_Md_add 16 = .ok (.iadd, 1) := by decide +kernel
theorem d_Md_add_17 : decode b_Md_add 17 = .ok (.putfield 119, 3) := by decide +kernel
theorem d_Md_add_20 : decode b_Md_add 20 = .ok (.return_, 1) := by decide +kernel
abbrev rm_Md_add : Room := { frames := 0, cells := 0, slots := 0, locals := 0 }
def f_Md_add_0 (s_self : Nat → Nat → Int32) (v1 : Int32) : Option ((Nat → Nat → Int32)) :=
  ck (s_self 0 19) 1000 <| nm (st2 s_self 10 (Int32.toNatClampNeg (s_self 0 19)) v1) fun s_self_2 =>
  nm (st2 s_self_2 0 19 ((s_self_2 0 19) + 1)) fun s_self_3 =>
  some s_self_3
set_option maxHeartbeats 4000000 in
set_option maxRecDepth 100000 in
theorem t_Md_add_0 {p : Program} {l : Launch} {e : Env} {s : State} {m : MethodId} {args : Array Value} {below : List Frame} {meth : Method} {c : Code} {A : Nat → Prop} {D : va_G} {K : Nat → ClassId} (a_self a_least : Nat → Nat) (X : gx p s m args c b_Md_add 2 R_Md w_Md_add D classes (tyK K) A) (hr : meth.sig.returnType = none) (hlk : meth.locks = false) (f_self : Nat → Nat → Int32) (s_self : Nat → Nat → Int32) (v1 : Int32) (h : f_Md_add_0 s_self v1 = some f_self) : Gd p l e rm_Md_add s m args below meth c 0 0 (MQ below (sq D classes (tyK K) none [wd_Md K a_self (a_least 0) f_self] A) args s 0 0 A) D classes A 2 0 [wd_Md K a_self (a_least 0) s_self] [(0, .ref (a_self 0)), (1, .int v1)] [] := by
  unfold f_Md_add_0 at h
  refine gd_aload_n X d_Md_add_0 0 rfl ?_
  refine gd_get X (ci := 7) (C := R_Md) (T := F_Md) (N := 36) (v := .ref (a_self 10)) 0 0 rfl rfl rfl (in_Md _) 18 (by decide) (List.mem_cons_of_mem _ fl_Md_42) rfl rfl d_Md_add_1 ?_
  refine gd_aload_n X d_Md_add_4 0 rfl ?_
  refine gd_get X (ci := 7) (C := R_Md) (T := F_Md) (N := 36) (v := .int (s_self 0 19)) 0 0 rfl rfl rfl (in_Md _) 19 (by decide) (List.mem_cons_of_mem _ fl_Md_119) rfl rfl d_Md_add_5 ?_
  refine gd_iload_n X d_Md_add_8 1 rfl ?_
  obtain ⟨hi_1, h⟩ := ck_e h
  obtain ⟨s_self_2, es_self_2, h⟩ := nm_e' h
  refine gd_iast X (w' := [wd_Md K a_self (a_least 0) s_self_2]) 0 10 0 rfl rfl rfl hi_1 d_Md_add_9 (by rw [es_self_2]; rfl) ?_
  refine gd_aload_n X d_Md_add_10 0 rfl ?_
  refine gd_dup X d_Md_add_11 rfl ?_
  refine gd_get X (ci := 7) (C := R_Md) (T := F_Md) (N := 36) (v := .int (s_self_2 0 19)) 0 0 rfl rfl rfl (in_Md _) 19 (by decide) (List.mem_cons_of_mem _ fl_Md_119) rfl rfl d_Md_add_12 ?_
  refine gd_iconst X (v := 1) d_Md_add_15 (by decide) ?_
  refine gd_iadd X d_Md_add_16 ?_
  obtain ⟨s_self_3, es_self_3, h⟩ := nm_e' h
  refine gd_put X (ci := 7) (C := R_Md) (T := F_Md) (N := 36) (ty := .int) (w' := [wd_Md K a_self (a_least 0) s_self_3]) 0 0 rfl rfl rfl (in_Md _) t_Md t_Md_ok n_Md 19 (by decide) (List.mem_cons_of_mem _ fl_Md_119) rfl rfl (by decide +kernel) rfl rfl (Nat.le_of_ble_eq_true rfl) d_Md_add_17 (by rw [es_self_3]; rfl) ?_
  cases h
  exact gd_vret X hr hlk d_Md_add_20
def m_Md_add (s_self : Nat → Nat → Int32) (v1 : Int32) : Option ((Nat → Nat → Int32)) := f_Md_add_0 s_self v1
set_option maxHeartbeats 4000000 in
set_option maxRecDepth 100000 in
theorem c_Md_add (l : Launch) (D : va_G) (K : Nat → ClassId) (a_self a_least : Nat → Nat) (s_self : Nat → Nat → Int32) (v1 : Int32) (f_self : Nat → Nat → Int32) (h : m_Md_add s_self v1 = some f_self) : SMet l y_Md_add w_Md_add rm_Md_add D classes (tyK K) [.ref (a_self 0), .int v1] none [wd_Md K a_self (a_least 0) s_self] [wd_Md K a_self (a_least 0) f_self] := by
  refine sm_of R_Md (by decide) rfl rfl (Nat.le_of_ble_eq_true rfl) ?_
  intro p e s m below meth c A X hr hlk
  refine gd_loc (lv' := [(0, .ref (a_self 0)), (1, .int v1)]) [0, 1] rfl ?_
  exact t_Md_add_0 a_self a_least X hr hlk f_self s_self v1 h
abbrev b_Md_addTree : ByteArray := prog_10_method_18_code
def y_Md_addTree : MethodName := ⟨R_Md, "addTree", "(I)V"⟩
def w_Md_addTree : List Cond := .code y_Md_addTree b_Md_addTree 3 none :: TB
theorem k_Md_addTree : Cond.code y_Md_addTree b_Md_addTree 3 none ∈ TB := tb_of 941 (by decide +kernel) (by decide +kernel)
theorem d_Md_addTree_0 : decode b_Md_addTree 0 = .ok (.iconst 0, 1) := by decide +kernel
theorem d_Md_addTree_1 : decode b_Md_addTree 1 = .ok (.istore_n 2, 1) := by decide +kernel
theorem d_Md_addTree_2 : decode b_Md_addTree 2 = .ok (.iload_n 2, 1) := by decide +kernel
theorem d_Md_addTree_3 : decode b_Md_addTree 3 = .ok (.aload_n 0, 1) := by decide +kernel
theorem d_Md_addTree_4 : decode b_Md_addTree 4 = .ok (.getfield 35, 3) := by decide +kernel
theorem d_Md_addTree_7 : decode b_Md_addTree 7 = .ok (.iload_n 1, 1) := by decide +kernel
theorem d_Md_addTree_8 : decode b_Md_addTree 8 = .ok (.iaload, 1) := by decide +kernel
theorem d_Md_addTree_9 : decode b_Md_addTree 9 = .ok (.if_icmp .ge 25, 3) := by decide +kernel
theorem d_Md_addTree_12 : decode b_Md_addTree 12 = .ok (.aload_n 0, 1) := by decide +kernel
theorem d_Md_addTree_13 : decode b_Md_addTree 13 = .ok (.aload_n 0, 1) := by decide +kernel
theorem d_Md_addTree_14 : decode b_Md_addTree 14 = .ok (.getfield 39, 3) := by decide +kernel
theorem d_Md_addTree_17 : decode b_Md_addTree 17 = .ok (.sipush 200, 3) := by decide +kernel
theorem d_Md_addTree_20 : decode b_Md_addTree 20 = .ok (.iload_n 1, 1) := by decide +kernel
theorem d_Md_addTree_21 : decode b_Md_addTree 21 = .ok (.imul, 1) := by decide +kernel
theorem d_Md_addTree_22 : decode b_Md_addTree 22 = .ok (.iload_n 2, 1) := by decide +kernel
theorem d_Md_addTree_23 : decode b_Md_addTree 23 = .ok (.iadd, 1) := by decide +kernel
theorem d_Md_addTree_24 : decode b_Md_addTree 24 = .ok (.iaload, 1) := by decide +kernel
theorem d_Md_addTree_25 : decode b_Md_addTree 25 = .ok (.invokevirtual 129, 3) := by decide +kernel
theorem d_Md_addTree_28 : decode b_Md_addTree 28 = .ok (.iinc 2 1, 3) := by decide +kernel
theorem d_Md_addTree_31 : decode b_Md_addTree 31 = .ok (.goto (-29), 3) := by decide +kernel
theorem d_Md_addTree_34 : decode b_Md_addTree 34 = .ok (.return_, 1) := by decide +kernel
theorem ml_Md_129 : Cond.methodLink R_Md 129 ⟨"RuleTreesModel", "add", "(I)V"⟩ ∈ TB := tb_of 894 (by decide +kernel) (by decide +kernel)
theorem u_Md_add : (Cond.instanceMethod y_Md_add ∈ TB ∧ Cond.selects R_Md y_Md_add y_Md_add ∈ TB) ∧ Cond.initialized R_Md ∈ TB ∧ Cond.code y_Md_add b_Md_add 2 none ∈ TB := ⟨⟨(tb_of 896 (by decide +kernel) (by decide +kernel)), (tb_of 42 (by decide +kernel) (by decide +kernel))⟩, (tb_of 70 (by decide +kernel) (by decide +kernel)), k_Md_add⟩
abbrev rm_Md_addTree : Room := { frames := 1, cells := 0, slots := 0, locals := 21 }
def f_Md_addTree_2 (N : Nat) (kb : (Nat → Nat → Int32) → Int32 → Option ((Nat → Nat → Int32))) (kx34 : (Nat → Nat → Int32) → Option ((Nat → Nat → Int32))) (s_self : Nat → Nat → Int32) (v1 v2 : Int32) : Option ((Nat → Nat → Int32)) :=
  ck v1 1872 <|
  if (s_self 8 (Int32.toNatClampNeg v1)) ≤ v2 then
    kx34 s_self
  else
    ck ((200 * v1) + v2) 374400 <|
    bd1 (m_Md_add s_self (s_self 9 (Int32.toNatClampNeg ((200 * v1) + v2)))) fun s_self_4 =>
    nm (v2 + 1) fun v2_6 =>
    kb s_self_4 v2_6
set_option maxHeartbeats 4000000 in
set_option maxRecDepth 100000 in
theorem t_Md_addTree_2 {p : Program} {l : Launch} {e : Env} {s : State} {m : MethodId} {args : Array Value} {below : List Frame} {meth : Method} {c : Code} {A : Nat → Prop} {D : va_G} {K : Nat → ClassId} (a_self a_least : Nat → Nat) (X : gx p s m args c b_Md_addTree 3 R_Md w_Md_addTree D classes (tyK K) A) (hr : meth.sig.returnType = none) (hlk : meth.locks = false) (N : Nat) (f_self : Nat → Nat → Int32) (s_self : Nat → Nat → Int32) (v1 v2 : Int32) (kb : (Nat → Nat → Int32) → Int32 → Option ((Nat → Nat → Int32))) (hkb : ∀ (s_self : Nat → Nat → Int32) (v2 : Int32), kb s_self v2 = some f_self → Gd p l e rm_Md_addTree s m args below meth c 0 0 (MQ below (sq D classes (tyK K) none [wd_Md K a_self (a_least 0) f_self] A) args s 0 0 A) D classes A 3 2 [wd_Md K a_self (a_least 0) s_self] [(0, .ref (a_self 0)), (1, .int v1), (2, .int v2)] []) (kx34 : (Nat → Nat → Int32) → Option ((Nat → Nat → Int32))) (hkx34 : ∀ (s_self : Nat → Nat → Int32), kx34 s_self = some f_self → Gd p l e rm_Md_addTree s m args below meth c 0 0 (MQ below (sq D classes (tyK K) none [wd_Md K a_self (a_least 0) f_self] A) args s 0 0 A) D classes A 3 34 [wd_Md K a_self (a_least 0) s_self] [] []) (h : f_Md_addTree_2 N kb kx34 s_self v1 v2 = some f_self) : Gd p l e rm_Md_addTree s m args below meth c 0 0 (MQ below (sq D classes (tyK K) none [wd_Md K a_self (a_least 0) f_self] A) args s 0 0 A) D classes A 3 2 [wd_Md K a_self (a_least 0) s_self] [(0, .ref (a_self 0)), (1, .int v1), (2, .int v2)] [] := by
  unfold f_Md_addTree_2 at h
  refine gd_iload_n X d_Md_addTree_2 2 rfl ?_
  refine gd_aload_n X d_Md_addTree_3 0 rfl ?_
  refine gd_get X (ci := 7) (C := R_Md) (T := F_Md) (N := 36) (v := .ref (a_self 8)) 0 0 rfl rfl rfl (in_Md _) 16 (by decide) (List.mem_cons_of_mem _ fl_Md_35) rfl rfl d_Md_addTree_4 ?_
  refine gd_iload_n X d_Md_addTree_7 1 rfl ?_
  obtain ⟨hi_1, h⟩ := ck_e h
  refine gd_iald X 0 8 0 rfl rfl rfl hi_1 d_Md_addTree_8 ?_
  refine gd_icmp_ge X (tgt := 34) d_Md_addTree_9 (by decide) (fun c_2 => ?_) (fun c_2 => ?_)
  · replace h := it_p c_2 h
    refine gd_loc (lv' := []) [] rfl ?_
    exact hkx34 s_self h
  · replace h := it_n c_2 h
    refine gd_aload_n X d_Md_addTree_12 0 rfl ?_
    refine gd_aload_n X d_Md_addTree_13 0 rfl ?_
    refine gd_get X (ci := 7) (C := R_Md) (T := F_Md) (N := 36) (v := .ref (a_self 9)) 0 0 rfl rfl rfl (in_Md _) 17 (by decide) (List.mem_cons_of_mem _ fl_Md_39) rfl rfl d_Md_addTree_14 ?_
    refine gd_sipush X (v := 200) d_Md_addTree_17 (by decide) ?_
    refine gd_iload_n X d_Md_addTree_20 1 rfl ?_
    refine gd_imul X d_Md_addTree_21 ?_
    refine gd_iload_n X d_Md_addTree_22 2 rfl ?_
    refine gd_iadd X d_Md_addTree_23 ?_
    obtain ⟨hi_3, h⟩ := ck_e h
    refine gd_iald X 0 9 0 rfl rfl rfl hi_3 d_Md_addTree_24 ?_
    obtain ⟨s_self_4, hc_5, h⟩ := bd1_e h
    refine gd_fv X (w1 := [wd_Md K a_self (a_least 0) s_self_4]) (gd_V X (As := [.int (s_self 9 (Int32.toNatClampNeg ((200 * v1) + v2)))]) (rest := []) (c_Md_add l D K a_self a_least s_self (s_self 9 (Int32.toNatClampNeg ((200 * v1) + v2))) s_self_4 hc_5) 1 (gi_V ml_Md_129 u_Md_add) rfl ⟨rfl, rfl⟩ (by decide +kernel) ⟨by decide, by decide⟩ (ci := 7) rfl rfl rfl rfl rfl rfl (Nat.le_of_ble_eq_true rfl) ⟨Nat.zero_le _, Nat.zero_le _⟩ d_Md_addTree_25) ?_
    obtain ⟨v2_6, ev2_6, h⟩ := nm_e' h
    refine gd_iinc X (v := v2_6) (lv' := [(2, .int v2_6), (0, .ref (a_self 0)), (1, .int v1)]) d_Md_addTree_28 (k := 2) rfl (by rw [ev2_6]; rfl) (by decide) rfl ?_
    refine gd_goto X (tgt := 2) d_Md_addTree_31 (by decide) ?_
    refine gd_loc (lv' := [(0, .ref (a_self 0)), (1, .int v1), (2, .int v2_6)]) [1, 2, 0] rfl ?_
    exact hkb s_self_4 v2_6 h
def f_Md_addTree_34 (N : Nat) (s_self : Nat → Nat → Int32) : Option ((Nat → Nat → Int32)) :=
  some s_self
set_option maxHeartbeats 4000000 in
set_option maxRecDepth 100000 in
theorem t_Md_addTree_34 {p : Program} {l : Launch} {e : Env} {s : State} {m : MethodId} {args : Array Value} {below : List Frame} {meth : Method} {c : Code} {A : Nat → Prop} {D : va_G} {K : Nat → ClassId} (a_self a_least : Nat → Nat) (X : gx p s m args c b_Md_addTree 3 R_Md w_Md_addTree D classes (tyK K) A) (hr : meth.sig.returnType = none) (hlk : meth.locks = false) (N : Nat) (f_self : Nat → Nat → Int32) (s_self : Nat → Nat → Int32) (h : f_Md_addTree_34 N s_self = some f_self) : Gd p l e rm_Md_addTree s m args below meth c 0 0 (MQ below (sq D classes (tyK K) none [wd_Md K a_self (a_least 0) f_self] A) args s 0 0 A) D classes A 3 34 [wd_Md K a_self (a_least 0) s_self] [] [] := by
  unfold f_Md_addTree_34 at h
  cases h
  exact gd_vret X hr hlk d_Md_addTree_34
def l_Md_addTree_2 (N : Nat) (v1 : Int32) (kx34 : (Nat → Nat → Int32) → Option ((Nat → Nat → Int32))) : Nat → (Nat → Nat → Int32) → Int32 → Option ((Nat → Nat → Int32))
  | 0, _, _ => none
  | n + 1, s_self, v2 => f_Md_addTree_2 N (l_Md_addTree_2 N v1 kx34 n) kx34 s_self v1 v2
set_option maxHeartbeats 4000000 in
set_option maxRecDepth 100000 in
theorem tl_Md_addTree_2 {p : Program} {l : Launch} {e : Env} {s : State} {m : MethodId} {args : Array Value} {below : List Frame} {meth : Method} {c : Code} {A : Nat → Prop} {D : va_G} {K : Nat → ClassId} (a_self a_least : Nat → Nat) (X : gx p s m args c b_Md_addTree 3 R_Md w_Md_addTree D classes (tyK K) A) (hr : meth.sig.returnType = none) (hlk : meth.locks = false) (N : Nat) (f_self : Nat → Nat → Int32) (v1 : Int32) (kx34 : (Nat → Nat → Int32) → Option ((Nat → Nat → Int32))) (hkx34 : ∀ (s_self : Nat → Nat → Int32), kx34 s_self = some f_self → Gd p l e rm_Md_addTree s m args below meth c 0 0 (MQ below (sq D classes (tyK K) none [wd_Md K a_self (a_least 0) f_self] A) args s 0 0 A) D classes A 3 34 [wd_Md K a_self (a_least 0) s_self] [] []) : ∀ (n : Nat) (s_self : Nat → Nat → Int32) (v2 : Int32), l_Md_addTree_2 N v1 kx34 n s_self v2 = some f_self → Gd p l e rm_Md_addTree s m args below meth c 0 0 (MQ below (sq D classes (tyK K) none [wd_Md K a_self (a_least 0) f_self] A) args s 0 0 A) D classes A 3 2 [wd_Md K a_self (a_least 0) s_self] [(0, .ref (a_self 0)), (1, .int v1), (2, .int v2)] [] := by
  intro n
  induction n with
  | zero => intro s_self v2 h; have h : (none : Option ((Nat → Nat → Int32))) = some _ := h; cases h
  | succ n ih =>
    intro s_self v2 h
    exact t_Md_addTree_2 a_self a_least X hr hlk N f_self s_self v1 v2 (l_Md_addTree_2 N v1 kx34 n) ih kx34 hkx34 h
def f_Md_addTree_0 (N : Nat) (s_self : Nat → Nat → Int32) (v1 : Int32) : Option ((Nat → Nat → Int32)) :=
  l_Md_addTree_2 N v1 (fun s_self => f_Md_addTree_34 N s_self) N s_self 0
set_option maxHeartbeats 4000000 in
set_option maxRecDepth 100000 in
theorem t_Md_addTree_0 {p : Program} {l : Launch} {e : Env} {s : State} {m : MethodId} {args : Array Value} {below : List Frame} {meth : Method} {c : Code} {A : Nat → Prop} {D : va_G} {K : Nat → ClassId} (a_self a_least : Nat → Nat) (X : gx p s m args c b_Md_addTree 3 R_Md w_Md_addTree D classes (tyK K) A) (hr : meth.sig.returnType = none) (hlk : meth.locks = false) (N : Nat) (f_self : Nat → Nat → Int32) (s_self : Nat → Nat → Int32) (v1 : Int32) (h : f_Md_addTree_0 N s_self v1 = some f_self) : Gd p l e rm_Md_addTree s m args below meth c 0 0 (MQ below (sq D classes (tyK K) none [wd_Md K a_self (a_least 0) f_self] A) args s 0 0 A) D classes A 3 0 [wd_Md K a_self (a_least 0) s_self] [(0, .ref (a_self 0)), (1, .int v1)] [] := by
  unfold f_Md_addTree_0 at h
  refine gd_iconst X (v := 0) d_Md_addTree_0 (by decide) ?_
  refine gd_istore_n X (lv' := [(2, .int 0), (0, .ref (a_self 0)), (1, .int v1)]) d_Md_addTree_1 rfl (by decide) rfl ?_
  refine gd_loc (lv' := [(0, .ref (a_self 0)), (1, .int v1), (2, .int 0)]) [1, 2, 0] rfl ?_
  exact tl_Md_addTree_2 a_self a_least X hr hlk N f_self v1 (fun s_self => f_Md_addTree_34 N s_self) (fun s_self h => t_Md_addTree_34 a_self a_least X hr hlk N f_self s_self h) N s_self 0 h
def m_Md_addTree (N : Nat) (s_self : Nat → Nat → Int32) (v1 : Int32) : Option ((Nat → Nat → Int32)) := f_Md_addTree_0 N s_self v1
set_option maxHeartbeats 4000000 in
set_option maxRecDepth 100000 in
theorem c_Md_addTree (l : Launch) (D : va_G) (K : Nat → ClassId) (a_self a_least : Nat → Nat) (N : Nat) (s_self : Nat → Nat → Int32) (v1 : Int32) (f_self : Nat → Nat → Int32) (h : m_Md_addTree N s_self v1 = some f_self) : SMet l y_Md_addTree w_Md_addTree rm_Md_addTree D classes (tyK K) [.ref (a_self 0), .int v1] none [wd_Md K a_self (a_least 0) s_self] [wd_Md K a_self (a_least 0) f_self] := by
  refine sm_of R_Md (by decide) rfl rfl (Nat.le_of_ble_eq_true rfl) ?_
  intro p e s m below meth c A X hr hlk
  refine gd_loc (lv' := [(0, .ref (a_self 0)), (1, .int v1)]) [0, 1] rfl ?_
  exact t_Md_addTree_0 a_self a_least X hr hlk N f_self s_self v1 h
