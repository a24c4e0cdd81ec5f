abbrev b_Md_findComes : ByteArray := prog_10_method_27_code
def y_Md_findComes : MethodName := ⟨R_Md, "findComes", "()V"⟩
def w_Md_findComes : List Cond := .code y_Md_findComes b_Md_findComes 4 none :: TB
theorem k_Md_findComes : Cond.code y_Md_findComes b_Md_findComes 4 none ∈ TB := tb_of 882 (by decide +kernel) (by decide +kernel)
theorem d_Md_findComes_0 : decode b_Md_findComes 0 = .ok (.iconst 0, 1) := by decide +kernel
theorem d_Md_findComes_1 : decode b_Md_findComes 1 = .ok (.istore_n 1, 1) := by decide +kernel
theorem d_Md_findComes_2 : decode b_Md_findComes 2 = .ok (.iload_n 1, 1) := by decide +kernel
theorem d_Md_findComes_3 : decode b_Md_findComes 3 = .ok (.bipush 36, 2) := by decide +kernel
theorem d_Md_findComes_5 : decode b_Md_findComes 5 = .ok (.if_icmp .ge 16, 3) := by decide +kernel
theorem d_Md_findComes_8 : decode b_Md_findComes 8 = .ok (.aload_n 0, 1) := by decide +kernel
theorem d_Md_findComes_9 : decode b_Md_findComes 9 = .ok (.getfield 66, 3) := by decide +kernel
theorem d_Md_findComes_12 : decode b_Md_findComes 12 = .ok (.iload_n 1, 1) := by decide +kernel
theorem d_Md_findComes_13 : decode b_Md_findComes 13 = .ok (.iconst 0, 1) := by decide +kernel
theorem d_Md_findComes_14 : decode b_Md_findComes 14 = .ok (.bastore, 1) := by decide +kernel
theorem d_Md_findComes_15 : decode b_Md_findComes 15 = .ok (.iinc 1 1, 3) := by decide +kernel
theorem d_Md_findComes_18 : decode b_Md_findComes 18 = .ok (.goto (-16), 3) := by decide +kernel
theorem d_Md_findComes_21 : decode b_Md_findComes 21 = .ok (.iconst 0, 1) := by decide +kernel
theorem d_Md_findComes_22 : decode b_Md_findComes 22 = .ok (.istore_n 1, 1) := by decide +kernel
theorem d_Md_findComes_23 : decode b_Md_findComes 23 = .ok (.iload_n 1, 1) := by decide +kernel
theorem d_Md_findComes_24 : decode b_Md_findComes 24 = .ok (.aload_n 0, 1) := by decide +kernel
theorem d_Md_findComes_25 : decode b_Md_findComes 25 = .ok (.getfield 103, 3) := by decide +kernel
theorem d_Md_findComes_28 : decode b_Md_findComes 28 = .ok (.if_icmp .ge 49, 3) := by decide +kernel
theorem d_Md_findComes_31 : decode b_Md_findComes 31 = .ok (.aload_n 0, 1) := by decide +kernel
theorem d_Md_findComes_32 : decode b_Md_findComes 32 = .ok (.iload_n 1, 1) := by decide +kernel
theorem d_Md_findComes_33 : decode b_Md_findComes 33 = .ok (.invokevirtual 172, 3) := by decide +kernel
theorem d_Md_findComes_36 : decode b_Md_findComes 36 = .ok (.ifCond .eq 35, 3) := by decide +kernel
theorem d_Md_findComes_39 : decode b_Md_findComes 39 = .ok (.aload_n 0, 1) := by decide +kernel
theorem d_Md_findComes_40 : decode b_Md_findComes 40 = .ok (.getfield 66, 3) := by decide +kernel
theorem d_Md_findComes_43 : decode b_Md_findComes 43 = .ok (.bipush 6, 2) := by decide +kernel
theorem d_Md_findComes_45 : decode b_Md_findComes 45 = .ok (.aload_n 0, 1) := by decide +kernel
theorem d_Md_findComes_46 : decode b_Md_findComes 46 = .ok (.getfield 13, 3) := by decide +kernel
theorem d_Md_findComes_49 : decode b_Md_findComes 49 = .ok (.iload_n 1, 1) := by decide +kernel
theorem d_Md_findComes_50 : decode b_Md_findComes 50 = .ok (.iaload, 1) := by decide +kernel
theorem d_Md_findComes_51 : decode b_Md_findComes 51 = .ok (.imul, 1) := by decide +kernel
theorem d_Md_findComes_52 : decode b_Md_findComes 52 = .ok (.aload_n 0, 1) := by decide +kernel
theorem d_Md_findComes_53 : decode b_Md_findComes 53 = .ok (.getfield 7, 3) := by decide +kernel
theorem d_Md_findComes_56 : decode b_Md_findComes 56 = .ok (.iconst (-1), 1) := by decide +kernel
theorem d_Md_findComes_57 : decode b_Md_findComes 57 = .ok (.aload_n 0, 1) := by decide +kernel
theorem d_Md_findComes_58 : decode b_Md_findComes 58 = .ok (.getfield 19, 3) := by decide +kernel
theorem d_Md_findComes_61 : decode b_Md_findComes 61 = .ok (.bipush 8, 2) := by decide +kernel
theorem d_Md_findComes_63 : decode b_Md_findComes 63 = .ok (.iload_n 1, 1) := by decide +kernel
theorem d_Md_findComes_64 : decode b_Md_findComes 64 = .ok (.imul, 1) := by decide +kernel
theorem d_Md_findComes_65 : decode b_Md_findComes 65 = .ok (.iaload, 1) := by decide +kernel
theorem d_Md_findComes_66 : decode b_Md_findComes 66 = .ok (.isub, 1) := by decide +kernel
theorem d_Md_findComes_67 : decode b_Md_findComes 67 = .ok (.iaload, 1) := by decide +kernel
theorem d_Md_findComes_68 : decode b_Md_findComes 68 = .ok (.iadd, 1) := by decide +kernel
theorem d_Md_findComes_69 : decode b_Md_findComes 69 = .ok (.iconst 1, 1) := by decide +kernel
theorem d_Md_findComes_70 : decode b_Md_findComes 70 = .ok (.bastore, 1) := by decide +kernel
theorem d_Md_findComes_71 : decode b_Md_findComes 71 = .ok (.iinc 1 1, 3) := by decide +kernel
theorem d_Md_findComes_74 : decode b_Md_findComes 74 = .ok (.goto (-51), 3) := by decide +kernel
theorem d_Md_findComes_77 : decode b_Md_findComes 77 = .ok (.iconst 0, 1) := by decide +kernel
theorem d_Md_findComes_78 : decode b_Md_findComes 78 = .ok (.istore_n 1, 1) := by decide +kernel
theorem d_Md_findComes_79 : decode b_Md_findComes 79 = .ok (.iload_n 1, 1) := by decide +kernel
theorem d_Md_findComes_80 : decode b_Md_findComes 80 = .ok (.aload_n 0, 1) := by decide +kernel
theorem d_Md_findComes_81 : decode b_Md_findComes 81 = .ok (.getfield 89, 3) := by decide +kernel
theorem d_Md_findComes_84 : decode b_Md_findComes 84 = .ok (.if_icmp .ge 99, 3) := by decide +kernel
theorem d_Md_findComes_87 : decode b_Md_findComes 87 = .ok (.iconst 0, 1) := by decide +kernel
theorem d_Md_findComes_88 : decode b_Md_findComes 88 = .ok (.istore_n 2, 1) := by decide +kernel
theorem d_Md_findComes_89 : decode b_Md_findComes 89 = .ok (.iload_n 2, 1) := by decide +kernel
theorem d_Md_findComes_90 : decode b_Md_findComes 90 = .ok (.aload_n 0, 1) := by decide +kernel
theorem d_Md_findComes_91 : decode b_Md_findComes 91 = .ok (.getfield 89, 3) := by decide +kernel
theorem d_Md_findComes_94 : decode b_Md_findComes 94 = .ok (.if_icmp .ge 83, 3) := by decide +kernel
theorem d_Md_findComes_97 : decode b_Md_findComes 97 = .ok (.iconst 0, 1) := by decide +kernel
theorem d_Md_findComes_98 : decode b_Md_findComes 98 = .ok (.istore_n 3, 1) := by decide +kernel
theorem d_Md_findComes_99 : decode b_Md_findComes 99 = .ok (.iload_n 3, 1) := by decide +kernel
theorem d_Md_findComes_100 : decode b_Md_findComes 100 = .ok (.aload_n 0, 1) := by decide +kernel
theorem d_Md_findComes_101 : decode b_Md_findComes 101 = .ok (.getfield 89, 3) := by decide +kernel
theorem d_Md_findComes_104 : decode b_Md_findComes 104 = .ok (.if_icmp .ge 67, 3) := by decide +kernel
theorem d_Md_findComes_107 : decode b_Md_findComes 107 = .ok (.aload_n 0, 1) := by decide +kernel
theorem d_Md_findComes_108 : decode b_Md_findComes 108 = .ok (.getfield 66, 3) := by decide +kernel
theorem d_Md_findComes_111 : decode b_Md_findComes 111 = .ok (.bipush 6, 2) := by decide +kernel
theorem d_Md_findComes_113 : decode b_Md_findComes 113 = .ok (.iload_n 2, 1) := by decide +kernel
theorem d_Md_findComes_114 : decode b_Md_findComes 114 = .ok (.imul, 1) := by decide +kernel
theorem d_Md_findComes_115 : decode b_Md_findComes 115 = .ok (.iload_n 3, 1) := by decide +kernel
theorem d_Md_findComes_116 : decode b_Md_findComes 116 = .ok (.iadd, 1) := by decide +kernel
theorem d_Md_findComes_117 : decode b_Md_findComes 117 = .ok (.aload_n 0, 1) := by decide +kernel
theorem d_Md_findComes_118 : decode b_Md_findComes 118 = .ok (.getfield 66, 3) := by decide +kernel
theorem d_Md_findComes_121 : decode b_Md_findComes 121 = .ok (.bipush 6, 2) := by decide +kernel
theorem d_Md_findComes_123 : decode b_Md_findComes 123 = .ok (.iload_n 2, 1) := by decide +kernel
theorem d_Md_findComes_124 : decode b_Md_findComes 124 = .ok (.imul, 1) := by decide +kernel
theorem d_Md_findComes_125 : decode b_Md_findComes 125 = .ok (.iload_n 3, 1) := by decide +kernel
theorem d_Md_findComes_126 : decode b_Md_findComes 126 = .ok (.iadd, 1) := by decide +kernel
theorem d_Md_findComes_127 : decode b_Md_findComes 127 = .ok (.baload, 1) := by decide +kernel
theorem d_Md_findComes_128 : decode b_Md_findComes 128 = .ok (.ifCond .ne 31, 3) := by decide +kernel
theorem d_Md_findComes_131 : decode b_Md_findComes 131 = .ok (.aload_n 0, 1) := by decide +kernel
theorem d_Md_findComes_132 : decode b_Md_findComes 132 = .ok (.getfield 66, 3) := by decide +kernel
theorem d_Md_findComes_135 : decode b_Md_findComes 135 = .ok (.bipush 6, 2) := by decide +kernel
theorem d_Md_findComes_137 : decode b_Md_findComes 137 = .ok (.iload_n 2, 1) := by decide +kernel
theorem d_Md_findComes_138 : decode b_Md_findComes 138 = .ok (.imul, 1) := by decide +kernel
theorem d_Md_findComes_139 : decode b_Md_findComes 139 = .ok (.iload_n 1, 1) := by decide +kernel
theorem d_Md_findComes_140 : decode b_Md_findComes 140 = .ok (.iadd, 1) := by decide +kernel
theorem d_Md_findComes_141 : decode b_Md_findComes 141 = .ok (.baload, 1) := by decide +kernel
theorem d_Md_findComes_142 : decode b_Md_findComes 142 = .ok (.ifCond .eq 21, 3) := by decide +kernel
theorem d_Md_findComes_145 : decode b_Md_findComes 145 = .ok (.aload_n 0, 1) := by decide +kernel
theorem d_Md_findComes_146 : decode b_Md_findComes 146 = .ok (.getfield 66, 3) := by decide +kernel
theorem d_Md_findComes_149 : decode b_Md_findComes 149 = .ok (.bipush 6, 2) := by decide +kernel
theorem d_Md_findComes_151 : decode b_Md_findComes 151 = .ok (.iload_n 1, 1) := by decide +kernel
theorem d_Md_findComes_152 : decode b_Md_findComes 152 = .ok (.imul, 1) := by decide +kernel
theorem d_Md_findComes_153 : decode b_Md_findComes 153 = .ok (.iload_n 3, 1) := by decide +kernel
theorem d_Md_findComes_154 : decode b_Md_findComes 154 = .ok (.iadd, 1) := by decide +kernel
theorem d_Md_findComes_155 : decode b_Md_findComes 155 = .ok (.baload, 1) := by decide +kernel
theorem d_Md_findComes_156 : decode b_Md_findComes 156 = .ok (.ifCond .eq 7, 3) := by decide +kernel
theorem d_Md_findComes_159 : decode b_Md_findComes 159 = .ok (.iconst 1, 1) := by decide +kernel
theorem d_Md_findComes_160 : decode b_Md_findComes 160 = .ok (.goto 4, 3) := by decide +kernel
theorem d_Md_findComes_163 : decode b_Md_findComes 163 = .ok (.iconst 0, 1) := by decide +kernel
theorem d_Md_findComes_164 : decode b_Md_findComes 164 = .ok (.bastore, 1) := by decide +kernel
theorem d_Md_findComes_165 : decode b_Md_findComes 165 = .ok (.iinc 3 1, 3) := by decide +kernel
theorem d_Md_findComes_168 : decode b_Md_findComes 168 = .ok (.goto (-69), 3) := by decide +kernel
theorem d_Md_findComes_171 : decode b_Md_findComes 171 = .ok (.iinc 2 1, 3) := by decide +kernel
theorem d_Md_findComes_174 : decode b_Md_findComes 174 = .ok (.goto (-85), 3) := by decide +kernel
theorem d_Md_findComes_177 : decode b_Md_findComes 177 = .ok (.iinc 1 1, 3) := by decide +kernel
theorem d_Md_findComes_180 : decode b_Md_findComes 180 = .ok (.goto (-101), 3) := by decide +kernel
theorem d_Md_findComes_183 : decode b_Md_findComes 183 = .ok (.return_, 1) := by decide +kernel
theorem fl_Md_66 : Cond.fieldLink R_Md 66 "RuleTreesModel" "comes" "[Z" ∈ TB := tb_of 749 (by decide +kernel) (by decide +kernel)
theorem ml_Md_172 : Cond.methodLink R_Md 172 ⟨"RuleTreesModel", "isPlain", "(I)Z"⟩ ∈ TB := tb_of 883 (by decide +kernel) (by decide +kernel)
theorem u_Md_isPlain : (Cond.instanceMethod y_Md_isPlain ∈ TB ∧ Cond.selects R_Md y_Md_isPlain y_Md_isPlain ∈ TB) ∧ Cond.initialized R_Md ∈ TB ∧ Cond.code y_Md_isPlain b_Md_isPlain 2 (some .boolean) ∈ TB := ⟨⟨(tb_of 885 (by decide +kernel) (by decide +kernel)), (tb_of 40 (by decide +kernel) (by decide +kernel))⟩, (tb_of 70 (by decide +kernel) (by decide +kernel)), k_Md_isPlain⟩
abbrev rm_Md_findComes : Room := { frames := 1, cells := 0, slots := 0, locals := 21 }
def f_Md_findComes_2 (N : Nat) (kb : (Nat → Nat → Int32) → Int32 → Option ((Nat → Nat → Int32))) (kx21 : (Nat → Nat → Int32) → Option ((Nat → Nat → Int32))) (s_self : Nat → Nat → Int32) (v1 : Int32) : Option ((Nat → Nat → Int32)) :=
  if 36 ≤ v1 then
    kx21 s_self
  else
    ck v1 36 <| nm (st2 s_self 18 (Int32.toNatClampNeg v1) 0) fun s_self_3 =>
    nm (v1 + 1) fun v1_4 =>
    kb s_self_3 v1_4
set_option maxHeartbeats 4000000 in
set_option maxRecDepth 100000 in
theorem t_Md_findComes_2 {p : Program} {l : Launch} {e : Env} {s : State} {m : MethodId} {args : Array Value} {below : List Frame} {meth : Method} {c : Code} {A : Nat → Prop} {D : va_G} {K : Nat → ClassId} (a_self a_least : Nat → Nat) (X : gx p s m args c b_Md_findComes 4 R_Md w_Md_findComes D classes (tyK K) A) (hr : meth.sig.returnType = none) (hlk : meth.locks = false) (N : Nat) (f_self : Nat → Nat → Int32) (s_self : Nat → Nat → Int32) (v1 : Int32) (kb : (Nat → Nat → Int32) → Int32 → Option ((Nat → Nat → Int32))) (hkb : ∀ (s_self : Nat → Nat → Int32) (v1 : Int32), kb s_self v1 = some f_self → Gd p l e rm_Md_findComes s m args below meth c 0 0 (MQ below (sq D classes (tyK K) none [wd_Md K a_self (a_least 0) f_self] A) args s 0 0 A) D classes A 4 2 [wd_Md K a_self (a_least 0) s_self] [(0, .ref (a_self 0)), (1, .int v1)] []) (kx21 : (Nat → Nat → Int32) → Option ((Nat → Nat → Int32))) (hkx21 : ∀ (s_self : Nat → Nat → Int32), kx21 s_self = some f_self → Gd p l e rm_Md_findComes s m args below meth c 0 0 (MQ below (sq D classes (tyK K) none [wd_Md K a_self (a_least 0) f_self] A) args s 0 0 A) D classes A 4 21 [wd_Md K a_self (a_least 0) s_self] [(0, .ref (a_self 0))] []) (h : f_Md_findComes_2 N kb kx21 s_self v1 = some f_self) : Gd p l e rm_Md_findComes s m args below meth c 0 0 (MQ below (sq D classes (tyK K) none [wd_Md K a_self (a_least 0) f_self] A) args s 0 0 A) D classes A 4 2 [wd_Md K a_self (a_least 0) s_self] [(0, .ref (a_self 0)), (1, .int v1)] [] := by
  unfold f_Md_findComes_2 at h
  refine gd_iload_n X d_Md_findComes_2 1 rfl ?_
  refine gd_bipush X (v := 36) d_Md_findComes_3 (by decide) ?_
  refine gd_icmp_ge X (tgt := 21) d_Md_findComes_5 (by decide) (fun c_1 => ?_) (fun c_1 => ?_)
  · replace h := it_p c_1 h
    refine gd_loc (lv' := [(0, .ref (a_self 0))]) [0] rfl ?_
    exact hkx21 s_self h
  · replace h := it_n c_1 h
    refine gd_aload_n X d_Md_findComes_8 0 rfl ?_
    refine gd_get X (ci := 7) (C := R_Md) (T := F_Md) (N := 36) (v := .ref (a_self 18)) 0 0 rfl rfl rfl (in_Md _) 29 (by decide) (List.mem_cons_of_mem _ fl_Md_66) rfl rfl d_Md_findComes_9 ?_
    refine gd_iload_n X d_Md_findComes_12 1 rfl ?_
    refine gd_iconst X (v := 0) d_Md_findComes_13 (by decide) ?_
    obtain ⟨hi_2, h⟩ := ck_e h
    obtain ⟨s_self_3, es_self_3, h⟩ := nm_e' h
    refine gd_zast X (w' := [wd_Md K a_self (a_least 0) s_self_3]) 0 18 1 rfl rfl rfl hi_2 (by decide) d_Md_findComes_14 (by rw [es_self_3]; rfl) ?_
    obtain ⟨v1_4, ev1_4, h⟩ := nm_e' h
    refine gd_iinc X (v := v1_4) (lv' := [(1, .int v1_4), (0, .ref (a_self 0))]) d_Md_findComes_15 (k := 1) rfl (by rw [ev1_4]; rfl) (by decide) rfl ?_
    refine gd_goto X (tgt := 2) d_Md_findComes_18 (by decide) ?_
    refine gd_loc (lv' := [(0, .ref (a_self 0)), (1, .int v1_4)]) [1, 0] rfl ?_
    exact hkb s_self_3 v1_4 h
def f_Md_findComes_23 (N : Nat) (kb : (Nat → Nat → Int32) → Int32 → Option ((Nat → Nat → Int32))) (kx77 : (Nat → Nat → Int32) → Option ((Nat → Nat → Int32))) (s_self : Nat → Nat → Int32) (v1 : Int32) : Option ((Nat → Nat → Int32)) :=
  if (s_self 0 4) ≤ v1 then
    kx77 s_self
  else
    bd1 (m_Md_isPlain s_self v1) fun r_2 =>
    if r_2 = 0 then
      nm (v1 + 1) fun v1_5 =>
      kb s_self v1_5
    else
      ck v1 31 <|
      ck (8 * v1) 248 <|
      ck ((-1) - (s_self 4 (Int32.toNatClampNeg (8 * v1)))) 20 <|
      ck ((6 * (s_self 2 (Int32.toNatClampNeg v1))) + (s_self 1 (Int32.toNatClampNeg ((-1) - (s_self 4 (Int32.toNatClampNeg (8 * v1))))))) 36 <| nm (st2 s_self 18 (Int32.toNatClampNeg ((6 * (s_self 2 (Int32.toNatClampNeg v1))) + (s_self 1 (Int32.toNatClampNeg ((-1) - (s_self 4 (Int32.toNatClampNeg (8 * v1)))))))) 1) fun s_self_10 =>
      nm (v1 + 1) fun v1_11 =>
      kb s_self_10 v1_11
set_option maxHeartbeats 4000000 in
set_option maxRecDepth 100000 in
theorem t_Md_findComes_23 {p : Program} {l : Launch} {e : Env} {s : State} {m : MethodId} {args : Array Value} {below : List Frame} {meth : Method} {c : Code} {A : Nat → Prop} {D : va_G} {K : Nat → ClassId} (a_self a_least : Nat → Nat) (X : gx p s m args c b_Md_findComes 4 R_Md w_Md_findComes D classes (tyK K) A) (hr : meth.sig.returnType = none) (hlk : meth.locks = false) (N : Nat) (f_self : Nat → Nat → Int32) (s_self : Nat → Nat → Int32) (v1 : Int32) (kb : (Nat → Nat → Int32) → Int32 → Option ((Nat → Nat → Int32))) (hkb : ∀ (s_self : Nat → Nat → Int32) (v1 : Int32), kb s_self v1 = some f_self → Gd p l e rm_Md_findComes s m args below meth c 0 0 (MQ below (sq D classes (tyK K) none [wd_Md K a_self (a_least 0) f_self] A) args s 0 0 A) D classes A 4 23 [wd_Md K a_self (a_least 0) s_self] [(0, .ref (a_self 0)), (1, .int v1)] []) (kx77 : (Nat → Nat → Int32) → Option ((Nat → Nat → Int32))) (hkx77 : ∀ (s_self : Nat → Nat → Int32), kx77 s_self = some f_self → Gd p l e rm_Md_findComes s m args below meth c 0 0 (MQ below (sq D classes (tyK K) none [wd_Md K a_self (a_least 0) f_self] A) args s 0 0 A) D classes A 4 77 [wd_Md K a_self (a_least 0) s_self] [(0, .ref (a_self 0))] []) (h : f_Md_findComes_23 N kb kx77 s_self v1 = some f_self) : Gd p l e rm_Md_findComes s m args below meth c 0 0 (MQ below (sq D classes (tyK K) none [wd_Md K a_self (a_least 0) f_self] A) args s 0 0 A) D classes A 4 23 [wd_Md K a_self (a_least 0) s_self] [(0, .ref (a_self 0)), (1, .int v1)] [] := by
  unfold f_Md_findComes_23 at h
  refine gd_iload_n X d_Md_findComes_23 1 rfl ?_
  refine gd_aload_n X d_Md_findComes_24 0 rfl ?_
  refine gd_get X (ci := 7) (C := R_Md) (T := F_Md) (N := 36) (v := .int (s_self 0 4)) 0 0 rfl rfl rfl (in_Md _) 4 (by decide) (List.mem_cons_of_mem _ fl_Md_103) rfl rfl d_Md_findComes_25 ?_
  refine gd_icmp_ge X (tgt := 77) d_Md_findComes_28 (by decide) (fun c_1 => ?_) (fun c_1 => ?_)
  · replace h := it_p c_1 h
    refine gd_loc (lv' := [(0, .ref (a_self 0))]) [0] rfl ?_
    exact hkx77 s_self h
  · replace h := it_n c_1 h
    refine gd_aload_n X d_Md_findComes_31 0 rfl ?_
    refine gd_iload_n X d_Md_findComes_32 1 rfl ?_
    obtain ⟨r_2, hc_3, h⟩ := bd1_e h
    refine gd_fI X (gd_V X (As := [.int v1]) (rest := []) (c_Md_isPlain l D K a_self a_least s_self v1 r_2 hc_3) 1 (gi_V ml_Md_172 u_Md_isPlain) rfl ⟨rfl, rfl⟩ (by decide +kernel) ⟨by decide, by decide⟩ (ci := 7) rfl rfl rfl rfl rfl rfl (Nat.le_of_ble_eq_true rfl) ⟨Nat.zero_le _, Nat.zero_le _⟩ d_Md_findComes_33) ?_
    refine gd_if_eq X (tgt := 71) d_Md_findComes_36 (by decide) (fun c_4 => ?_) (fun c_4 => ?_)
    · replace h := it_p c_4 h
      obtain ⟨v1_5, ev1_5, h⟩ := nm_e' h
      refine gd_iinc X (v := v1_5) (lv' := [(1, .int v1_5), (0, .ref (a_self 0))]) d_Md_findComes_71 (k := 1) rfl (by rw [ev1_5]; rfl) (by decide) rfl ?_
      refine gd_goto X (tgt := 23) d_Md_findComes_74 (by decide) ?_
      refine gd_loc (lv' := [(0, .ref (a_self 0)), (1, .int v1_5)]) [1, 0] rfl ?_
      exact hkb s_self v1_5 h
    · replace h := it_n c_4 h
      refine gd_aload_n X d_Md_findComes_39 0 rfl ?_
      refine gd_get X (ci := 7) (C := R_Md) (T := F_Md) (N := 36) (v := .ref (a_self 18)) 0 0 rfl rfl rfl (in_Md _) 29 (by decide) (List.mem_cons_of_mem _ fl_Md_66) rfl rfl d_Md_findComes_40 ?_
      refine gd_bipush X (v := 6) d_Md_findComes_43 (by decide) ?_
      refine gd_aload_n X d_Md_findComes_45 0 rfl ?_
      refine gd_get X (ci := 7) (C := R_Md) (T := F_Md) (N := 36) (v := .ref (a_self 2)) 0 0 rfl rfl rfl (in_Md _) 6 (by decide) (List.mem_cons_of_mem _ fl_Md_13) rfl rfl d_Md_findComes_46 ?_
      refine gd_iload_n X d_Md_findComes_49 1 rfl ?_
      obtain ⟨hi_6, h⟩ := ck_e h
      refine gd_iald X 0 2 0 rfl rfl rfl hi_6 d_Md_findComes_50 ?_
      refine gd_imul X d_Md_findComes_51 ?_
      refine gd_aload_n X d_Md_findComes_52 0 rfl ?_
      refine gd_get X (ci := 7) (C := R_Md) (T := F_Md) (N := 36) (v := .ref (a_self 1)) 0 0 rfl rfl rfl (in_Md _) 3 (by decide) (List.mem_cons_of_mem _ fl_Md_7) rfl rfl d_Md_findComes_53 ?_
      refine gd_iconst X (v := (-1)) d_Md_findComes_56 (by decide) ?_
      refine gd_aload_n X d_Md_findComes_57 0 rfl ?_
      refine gd_get X (ci := 7) (C := R_Md) (T := F_Md) (N := 36) (v := .ref (a_self 4)) 0 0 rfl rfl rfl (in_Md _) 8 (by decide) (List.mem_cons_of_mem _ fl_Md_19) rfl rfl d_Md_findComes_58 ?_
      refine gd_bipush X (v := 8) d_Md_findComes_61 (by decide) ?_
      refine gd_iload_n X d_Md_findComes_63 1 rfl ?_
      refine gd_imul X d_Md_findComes_64 ?_
      obtain ⟨hi_7, h⟩ := ck_e h
      refine gd_iald X 0 4 0 rfl rfl rfl hi_7 d_Md_findComes_65 ?_
      refine gd_isub X d_Md_findComes_66 ?_
      obtain ⟨hi_8, h⟩ := ck_e h
      refine gd_iald X 0 1 0 rfl rfl rfl hi_8 d_Md_findComes_67 ?_
      refine gd_iadd X d_Md_findComes_68 ?_
      refine gd_iconst X (v := 1) d_Md_findComes_69 (by decide) ?_
      obtain ⟨hi_9, h⟩ := ck_e h
      obtain ⟨s_self_10, es_self_10, h⟩ := nm_e' h
      refine gd_zast X (w' := [wd_Md K a_self (a_least 0) s_self_10]) 0 18 1 rfl rfl rfl hi_9 (by decide) d_Md_findComes_70 (by rw [es_self_10]; rfl) ?_
      obtain ⟨v1_11, ev1_11, h⟩ := nm_e' h
      refine gd_iinc X (v := v1_11) (lv' := [(1, .int v1_11), (0, .ref (a_self 0))]) d_Md_findComes_71 (k := 1) rfl (by rw [ev1_11]; rfl) (by decide) rfl ?_
      refine gd_goto X (tgt := 23) d_Md_findComes_74 (by decide) ?_
      refine gd_loc (lv' := [(0, .ref (a_self 0)), (1, .int v1_11)]) [1, 0] rfl ?_
      exact hkb s_self_10 v1_11 h
def f_Md_findComes_99 (N : Nat) (kb : (Nat → Nat → Int32) → Int32 → Option ((Nat → Nat → Int32))) (kx171 : (Nat → Nat → Int32) → Option ((Nat → Nat → Int32))) (s_self : Nat → Nat → Int32) (v1 v2 v3 : Int32) : Option ((Nat → Nat → Int32)) :=
  if (s_self 0 1) ≤ v3 then
    kx171 s_self
  else
    ck ((6 * v2) + v3) 36 <|
    if (s_self 18 (Int32.toNatClampNeg ((6 * v2) + v3))) = 0 then
      ck ((6 * v2) + v1) 36 <|
      if (s_self 18 (Int32.toNatClampNeg ((6 * v2) + v1))) = 0 then
        ck ((6 * v2) + v3) 36 <| nm (st2 s_self 18 (Int32.toNatClampNeg ((6 * v2) + v3)) 0) fun s_self_10 =>
        nm (v3 + 1) fun v3_11 =>
        kb s_self_10 v3_11
      else
        ck ((6 * v1) + v3) 36 <|
        if (s_self 18 (Int32.toNatClampNeg ((6 * v1) + v3))) = 0 then
          ck ((6 * v2) + v3) 36 <| nm (st2 s_self 18 (Int32.toNatClampNeg ((6 * v2) + v3)) 0) fun s_self_15 =>
          nm (v3 + 1) fun v3_16 =>
          kb s_self_15 v3_16
        else
          ck ((6 * v2) + v3) 36 <| nm (st2 s_self 18 (Int32.toNatClampNeg ((6 * v2) + v3)) 1) fun s_self_18 =>
          nm (v3 + 1) fun v3_19 =>
          kb s_self_18 v3_19
    else
      ck ((6 * v2) + v3) 36 <| nm (st2 s_self 18 (Int32.toNatClampNeg ((6 * v2) + v3)) 1) fun s_self_5 =>
      nm (v3 + 1) fun v3_6 =>
      kb s_self_5 v3_6
set_option maxHeartbeats 4000000 in
set_option maxRecDepth 100000 in
theorem t_Md_findComes_99 {p : Program} {l : Launch} {e : Env} {s : State} {m : MethodId} {args : Array Value} {below : List Frame} {meth : Method} {c : Code} {A : Nat → Prop} {D : va_G} {K : Nat → ClassId} (a_self a_least : Nat → Nat) (X : gx p s m args c b_Md_findComes 4 R_Md w_Md_findComes D classes (tyK K) A) (hr : meth.sig.returnType = none) (hlk : meth.locks = false) (N : Nat) (f_self : Nat → Nat → Int32) (s_self : Nat → Nat → Int32) (v1 v2 v3 : Int32) (kb : (Nat → Nat → Int32) → Int32 → Option ((Nat → Nat → Int32))) (hkb : ∀ (s_self : Nat → Nat → Int32) (v3 : Int32), kb s_self v3 = some f_self → Gd p l e rm_Md_findComes s m args below meth c 0 0 (MQ below (sq D classes (tyK K) none [wd_Md K a_self (a_least 0) f_self] A) args s 0 0 A) D classes A 4 99 [wd_Md K a_self (a_least 0) s_self] [(0, .ref (a_self 0)), (1, .int v1), (2, .int v2), (3, .int v3)] []) (kx171 : (Nat → Nat → Int32) → Option ((Nat → Nat → Int32))) (hkx171 : ∀ (s_self : Nat → Nat → Int32), kx171 s_self = some f_self → Gd p l e rm_Md_findComes s m args below meth c 0 0 (MQ below (sq D classes (tyK K) none [wd_Md K a_self (a_least 0) f_self] A) args s 0 0 A) D classes A 4 171 [wd_Md K a_self (a_least 0) s_self] [(0, .ref (a_self 0)), (1, .int v1), (2, .int v2)] []) (h : f_Md_findComes_99 N kb kx171 s_self v1 v2 v3 = some f_self) : Gd p l e rm_Md_findComes s m args below meth c 0 0 (MQ below (sq D classes (tyK K) none [wd_Md K a_self (a_least 0) f_self] A) args s 0 0 A) D classes A 4 99 [wd_Md K a_self (a_least 0) s_self] [(0, .ref (a_self 0)), (1, .int v1), (2, .int v2), (3, .int v3)] [] := by
  unfold f_Md_findComes_99 at h
  refine gd_iload_n X d_Md_findComes_99 3 rfl ?_
  refine gd_aload_n X d_Md_findComes_100 0 rfl ?_
  refine gd_get X (ci := 7) (C := R_Md) (T := F_Md) (N := 36) (v := .int (s_self 0 1)) 0 0 rfl rfl rfl (in_Md _) 1 (by decide) (List.mem_cons_of_mem _ fl_Md_89) rfl rfl d_Md_findComes_101 ?_
  refine gd_icmp_ge X (tgt := 171) d_Md_findComes_104 (by decide) (fun c_1 => ?_) (fun c_1 => ?_)
  · replace h := it_p c_1 h
    refine gd_loc (lv' := [(0, .ref (a_self 0)), (1, .int v1), (2, .int v2)]) [0, 1, 2] rfl ?_
    exact hkx171 s_self h
  · replace h := it_n c_1 h
    refine gd_aload_n X d_Md_findComes_107 0 rfl ?_
    refine gd_get X (ci := 7) (C := R_Md) (T := F_Md) (N := 36) (v := .ref (a_self 18)) 0 0 rfl rfl rfl (in_Md _) 29 (by decide) (List.mem_cons_of_mem _ fl_Md_66) rfl rfl d_Md_findComes_108 ?_
    refine gd_bipush X (v := 6) d_Md_findComes_111 (by decide) ?_
    refine gd_iload_n X d_Md_findComes_113 2 rfl ?_
    refine gd_imul X d_Md_findComes_114 ?_
    refine gd_iload_n X d_Md_findComes_115 3 rfl ?_
    refine gd_iadd X d_Md_findComes_116 ?_
    refine gd_aload_n X d_Md_findComes_117 0 rfl ?_
    refine gd_get X (ci := 7) (C := R_Md) (T := F_Md) (N := 36) (v := .ref (a_self 18)) 0 0 rfl rfl rfl (in_Md _) 29 (by decide) (List.mem_cons_of_mem _ fl_Md_66) rfl rfl d_Md_findComes_118 ?_
    refine gd_bipush X (v := 6) d_Md_findComes_121 (by decide) ?_
    refine gd_iload_n X d_Md_findComes_123 2 rfl ?_
    refine gd_imul X d_Md_findComes_124 ?_
    refine gd_iload_n X d_Md_findComes_125 3 rfl ?_
    refine gd_iadd X d_Md_findComes_126 ?_
    obtain ⟨hi_2, h⟩ := ck_e h
    refine gd_zald X 0 18 1 rfl rfl rfl hi_2 d_Md_findComes_127 ?_
    refine gd_if_ne X (tgt := 159) d_Md_findComes_128 (by decide) (fun c_3 => ?_) (fun c_3 => ?_)
    · replace h := it_n c_3 h
      refine gd_iconst X (v := 1) d_Md_findComes_159 (by decide) ?_
      refine gd_goto X (tgt := 164) d_Md_findComes_160 (by decide) ?_
      obtain ⟨hi_4, h⟩ := ck_e h
      obtain ⟨s_self_5, es_self_5, h⟩ := nm_e' h
      refine gd_zast X (w' := [wd_Md K a_self (a_least 0) s_self_5]) 0 18 1 rfl rfl rfl hi_4 (by decide) d_Md_findComes_164 (by rw [es_self_5]; rfl) ?_
      obtain ⟨v3_6, ev3_6, h⟩ := nm_e' h
      refine gd_iinc X (v := v3_6) (lv' := [(3, .int v3_6), (0, .ref (a_self 0)), (1, .int v1), (2, .int v2)]) d_Md_findComes_165 (k := 3) rfl (by rw [ev3_6]; rfl) (by decide) rfl ?_
      refine gd_goto X (tgt := 99) d_Md_findComes_168 (by decide) ?_
      refine gd_loc (lv' := [(0, .ref (a_self 0)), (1, .int v1), (2, .int v2), (3, .int v3_6)]) [1, 2, 3, 0] rfl ?_
      exact hkb s_self_5 v3_6 h
    · replace h := it_p c_3 h
      refine gd_aload_n X d_Md_findComes_131 0 rfl ?_
      refine gd_get X (ci := 7) (C := R_Md) (T := F_Md) (N := 36) (v := .ref (a_self 18)) 0 0 rfl rfl rfl (in_Md _) 29 (by decide) (List.mem_cons_of_mem _ fl_Md_66) rfl rfl d_Md_findComes_132 ?_
      refine gd_bipush X (v := 6) d_Md_findComes_135 (by decide) ?_
      refine gd_iload_n X d_Md_findComes_137 2 rfl ?_
      refine gd_imul X d_Md_findComes_138 ?_
      refine gd_iload_n X d_Md_findComes_139 1 rfl ?_
      refine gd_iadd X d_Md_findComes_140 ?_
      obtain ⟨hi_7, h⟩ := ck_e h
      refine gd_zald X 0 18 1 rfl rfl rfl hi_7 d_Md_findComes_141 ?_
      refine gd_if_eq X (tgt := 163) d_Md_findComes_142 (by decide) (fun c_8 => ?_) (fun c_8 => ?_)
      · replace h := it_p c_8 h
        refine gd_iconst X (v := 0) d_Md_findComes_163 (by decide) ?_
        obtain ⟨hi_9, h⟩ := ck_e h
        obtain ⟨s_self_10, es_self_10, h⟩ := nm_e' h
        refine gd_zast X (w' := [wd_Md K a_self (a_least 0) s_self_10]) 0 18 1 rfl rfl rfl hi_9 (by decide) d_Md_findComes_164 (by rw [es_self_10]; rfl) ?_
        obtain ⟨v3_11, ev3_11, h⟩ := nm_e' h
        refine gd_iinc X (v := v3_11) (lv' := [(3, .int v3_11), (0, .ref (a_self 0)), (1, .int v1), (2, .int v2)]) d_Md_findComes_165 (k := 3) rfl (by rw [ev3_11]; rfl) (by decide) rfl ?_
        refine gd_goto X (tgt := 99) d_Md_findComes_168 (by decide) ?_
        refine gd_loc (lv' := [(0, .ref (a_self 0)), (1, .int v1), (2, .int v2), (3, .int v3_11)]) [1, 2, 3, 0] rfl ?_
        exact hkb s_self_10 v3_11 h
      · replace h := it_n c_8 h
        refine gd_aload_n X d_Md_findComes_145 0 rfl ?_
        refine gd_get X (ci := 7) (C := R_Md) (T := F_Md) (N := 36) (v := .ref (a_self 18)) 0 0 rfl rfl rfl (in_Md _) 29 (by decide) (List.mem_cons_of_mem _ fl_Md_66) rfl rfl d_Md_findComes_146 ?_
        refine gd_bipush X (v := 6) d_Md_findComes_149 (by decide) ?_
        refine gd_iload_n X d_Md_findComes_151 1 rfl ?_
        refine gd_imul X d_Md_findComes_152 ?_
        refine gd_iload_n X d_Md_findComes_153 3 rfl ?_
        refine gd_iadd X d_Md_findComes_154 ?_
        obtain ⟨hi_12, h⟩ := ck_e h
        refine gd_zald X 0 18 1 rfl rfl rfl hi_12 d_Md_findComes_155 ?_
        refine gd_if_eq X (tgt := 163) d_Md_findComes_156 (by decide) (fun c_13 => ?_) (fun c_13 => ?_)
        · replace h := it_p c_13 h
          refine gd_iconst X (v := 0) d_Md_findComes_163 (by decide) ?_
          obtain ⟨hi_14, h⟩ := ck_e h
          obtain ⟨s_self_15, es_self_15, h⟩ := nm_e' h
          refine gd_zast X (w' := [wd_Md K a_self (a_least 0) s_self_15]) 0 18 1 rfl rfl rfl hi_14 (by decide) d_Md_findComes_164 (by rw [es_self_15]; rfl) ?_
          obtain ⟨v3_16, ev3_16, h⟩ := nm_e' h
          refine gd_iinc X (v := v3_16) (lv' := [(3, .int v3_16), (0, .ref (a_self 0)), (1, .int v1), (2, .int v2)]) d_Md_findComes_165 (k := 3) rfl (by rw [ev3_16]; rfl) (by decide) rfl ?_
          refine gd_goto X (tgt := 99) d_Md_findComes_168 (by decide) ?_
          refine gd_loc (lv' := [(0, .ref (a_self 0)), (1, .int v1), (2, .int v2), (3, .int v3_16)]) [1, 2, 3, 0] rfl ?_
          exact hkb s_self_15 v3_16 h
        · replace h := it_n c_13 h
          refine gd_iconst X (v := 1) d_Md_findComes_159 (by decide) ?_
          refine gd_goto X (tgt := 164) d_Md_findComes_160 (by decide) ?_
          obtain ⟨hi_17, h⟩ := ck_e h
          obtain ⟨s_self_18, es_self_18, h⟩ := nm_e' h
          refine gd_zast X (w' := [wd_Md K a_self (a_least 0) s_self_18]) 0 18 1 rfl rfl rfl hi_17 (by decide) d_Md_findComes_164 (by rw [es_self_18]; rfl) ?_
          obtain ⟨v3_19, ev3_19, h⟩ := nm_e' h
          refine gd_iinc X (v := v3_19) (lv' := [(3, .int v3_19), (0, .ref (a_self 0)), (1, .int v1), (2, .int v2)]) d_Md_findComes_165 (k := 3) rfl (by rw [ev3_19]; rfl) (by decide) rfl ?_
          refine gd_goto X (tgt := 99) d_Md_findComes_168 (by decide) ?_
          refine gd_loc (lv' := [(0, .ref (a_self 0)), (1, .int v1), (2, .int v2), (3, .int v3_19)]) [1, 2, 3, 0] rfl ?_
          exact hkb s_self_18 v3_19 h
def f_Md_findComes_171 (N : Nat) (kb : (Nat → Nat → Int32) → Int32 → Option ((Nat → Nat → Int32))) (kx177 : (Nat → Nat → Int32) → Option ((Nat → Nat → Int32))) (s_self : Nat → Nat → Int32) (v1 v2 : Int32) : Option ((Nat → Nat → Int32)) :=
  nm (v2 + 1) fun v2_1 =>
  kb s_self v2_1
set_option maxHeartbeats 4000000 in
set_option maxRecDepth 100000 in
theorem t_Md_findComes_171 {p : Program} {l : Launch} {e : Env} {s : State} {m : MethodId} {args : Array Value} {below : List Frame} {meth : Method} {c : Code} {A : Nat → Prop} {D : va_G} {K : Nat → ClassId} (a_self a_least : Nat → Nat) (X : gx p s m args c b_Md_findComes 4 R_Md w_Md_findComes D classes (tyK K) A) (hr : meth.sig.returnType = none) (hlk : meth.locks = false) (N : Nat) (f_self : Nat → Nat → Int32) (s_self : Nat → Nat → Int32) (v1 v2 : Int32) (kb : (Nat → Nat → Int32) → Int32 → Option ((Nat → Nat → Int32))) (hkb : ∀ (s_self : Nat → Nat → Int32) (v2 : Int32), kb s_self v2 = some f_self → Gd p l e rm_Md_findComes s m args below meth c 0 0 (MQ below (sq D classes (tyK K) none [wd_Md K a_self (a_least 0) f_self] A) args s 0 0 A) D classes A 4 89 [wd_Md K a_self (a_least 0) s_self] [(0, .ref (a_self 0)), (1, .int v1), (2, .int v2)] []) (kx177 : (Nat → Nat → Int32) → Option ((Nat → Nat → Int32))) (hkx177 : ∀ (s_self : Nat → Nat → Int32), kx177 s_self = some f_self → Gd p l e rm_Md_findComes s m args below meth c 0 0 (MQ below (sq D classes (tyK K) none [wd_Md K a_self (a_least 0) f_self] A) args s 0 0 A) D classes A 4 177 [wd_Md K a_self (a_least 0) s_self] [(0, .ref (a_self 0)), (1, .int v1)] []) (h : f_Md_findComes_171 N kb kx177 s_self v1 v2 = some f_self) : Gd p l e rm_Md_findComes s m args below meth c 0 0 (MQ below (sq D classes (tyK K) none [wd_Md K a_self (a_least 0) f_self] A) args s 0 0 A) D classes A 4 171 [wd_Md K a_self (a_least 0) s_self] [(0, .ref (a_self 0)), (1, .int v1), (2, .int v2)] [] := by
  unfold f_Md_findComes_171 at h
  obtain ⟨v2_1, ev2_1, h⟩ := nm_e' h
  refine gd_iinc X (v := v2_1) (lv' := [(2, .int v2_1), (0, .ref (a_self 0)), (1, .int v1)]) d_Md_findComes_171 (k := 2) rfl (by rw [ev2_1]; rfl) (by decide) rfl ?_
  refine gd_goto X (tgt := 89) d_Md_findComes_174 (by decide) ?_
  refine gd_loc (lv' := [(0, .ref (a_self 0)), (1, .int v1), (2, .int v2_1)]) [1, 2, 0] rfl ?_
  exact hkb s_self v2_1 h
def l_Md_findComes_99 (N : Nat) (v1 v2 : Int32) (kx171 : (Nat → Nat → Int32) → Option ((Nat → Nat → Int32))) : Nat → (Nat → Nat → Int32) → Int32 → Option ((Nat → Nat → Int32))
  | 0, _, _ => none
  | n + 1, s_self, v3 => f_Md_findComes_99 N (l_Md_findComes_99 N v1 v2 kx171 n) kx171 s_self v1 v2 v3
set_option maxHeartbeats 4000000 in
set_option maxRecDepth 100000 in
theorem tl_Md_findComes_99 {p : Program} {l : Launch} {e : Env} {s : State} {m : MethodId} {args : Array Value} {below : List Frame} {meth : Method} {c : Code} {A : Nat → Prop} {D : va_G} {K : Nat → ClassId} (a_self a_least : Nat → Nat) (X : gx p s m args c b_Md_findComes 4 R_Md w_Md_findComes D classes (tyK K) A) (hr : meth.sig.returnType = none) (hlk : meth.locks = false) (N : Nat) (f_self : Nat → Nat → Int32) (v1 v2 : Int32) (kx171 : (Nat → Nat → Int32) → Option ((Nat → Nat → Int32))) (hkx171 : ∀ (s_self : Nat → Nat → Int32), kx171 s_self = some f_self → Gd p l e rm_Md_findComes s m args below meth c 0 0 (MQ below (sq D classes (tyK K) none [wd_Md K a_self (a_least 0) f_self] A) args s 0 0 A) D classes A 4 171 [wd_Md K a_self (a_least 0) s_self] [(0, .ref (a_self 0)), (1, .int v1), (2, .int v2)] []) : ∀ (n : Nat) (s_self : Nat → Nat → Int32) (v3 : Int32), l_Md_findComes_99 N v1 v2 kx171 n s_self v3 = some f_self → Gd p l e rm_Md_findComes s m args below meth c 0 0 (MQ below (sq D classes (tyK K) none [wd_Md K a_self (a_least 0) f_self] A) args s 0 0 A) D classes A 4 99 [wd_Md K a_self (a_least 0) s_self] [(0, .ref (a_self 0)), (1, .int v1), (2, .int v2), (3, .int v3)] [] := by
  intro n
  induction n with
  | zero => intro s_self v3 h; have h : (none : Option ((Nat → Nat → Int32))) = some _ := h; cases h
  | succ n ih =>
    intro s_self v3 h
    exact t_Md_findComes_99 a_self a_least X hr hlk N f_self s_self v1 v2 v3 (l_Md_findComes_99 N v1 v2 kx171 n) ih kx171 hkx171 h
def f_Md_findComes_89 (N : Nat) (kb : (Nat → Nat → Int32) → Int32 → Option ((Nat → Nat → Int32))) (kx177 : (Nat → Nat → Int32) → Option ((Nat → Nat → Int32))) (s_self : Nat → Nat → Int32) (v1 v2 : Int32) : Option ((Nat → Nat → Int32)) :=
  if (s_self 0 1) ≤ v2 then
    kx177 s_self
  else
    l_Md_findComes_99 N v1 v2 (fun s_self => f_Md_findComes_171 N kb kx177 s_self v1 v2) N s_self 0
set_option maxHeartbeats 4000000 in
set_option maxRecDepth 100000 in
theorem t_Md_findComes_89 {p : Program} {l : Launch} {e : Env} {s : State} {m : MethodId} {args : Array Value} {below : List Frame} {meth : Method} {c : Code} {A : Nat → Prop} {D : va_G} {K : Nat → ClassId} (a_self a_least : Nat → Nat) (X : gx p s m args c b_Md_findComes 4 R_Md w_Md_findComes D classes (tyK K) A) (hr : meth.sig.returnType = none) (hlk : meth.locks = false) (N : Nat) (f_self : Nat → Nat → Int32) (s_self : Nat → Nat → Int32) (v1 v2 : Int32) (kb : (Nat → Nat → Int32) → Int32 → Option ((Nat → Nat → Int32))) (hkb : ∀ (s_self : Nat → Nat → Int32) (v2 : Int32), kb s_self v2 = some f_self → Gd p l e rm_Md_findComes s m args below meth c 0 0 (MQ below (sq D classes (tyK K) none [wd_Md K a_self (a_least 0) f_self] A) args s 0 0 A) D classes A 4 89 [wd_Md K a_self (a_least 0) s_self] [(0, .ref (a_self 0)), (1, .int v1), (2, .int v2)] []) (kx177 : (Nat → Nat → Int32) → Option ((Nat → Nat → Int32))) (hkx177 : ∀ (s_self : Nat → Nat → Int32), kx177 s_self = some f_self → Gd p l e rm_Md_findComes s m args below meth c 0 0 (MQ below (sq D classes (tyK K) none [wd_Md K a_self (a_least 0) f_self] A) args s 0 0 A) D classes A 4 177 [wd_Md K a_self (a_least 0) s_self] [(0, .ref (a_self 0)), (1, .int v1)] []) (h : f_Md_findComes_89 N kb kx177 s_self v1 v2 = some f_self) : Gd p l e rm_Md_findComes s m args below meth c 0 0 (MQ below (sq D classes (tyK K) none [wd_Md K a_self (a_least 0) f_self] A) args s 0 0 A) D classes A 4 89 [wd_Md K a_self (a_least 0) s_self] [(0, .ref (a_self 0)), (1, .int v1), (2, .int v2)] [] := by
  unfold f_Md_findComes_89 at h
  refine gd_iload_n X d_Md_findComes_89 2 rfl ?_
  refine gd_aload_n X d_Md_findComes_90 0 rfl ?_
  refine gd_get X (ci := 7) (C := R_Md) (T := F_Md) (N := 36) (v := .int (s_self 0 1)) 0 0 rfl rfl rfl (in_Md _) 1 (by decide) (List.mem_cons_of_mem _ fl_Md_89) rfl rfl d_Md_findComes_91 ?_
  refine gd_icmp_ge X (tgt := 177) d_Md_findComes_94 (by decide) (fun c_1 => ?_) (fun c_1 => ?_)
  · replace h := it_p c_1 h
    refine gd_loc (lv' := [(0, .ref (a_self 0)), (1, .int v1)]) [0, 1] rfl ?_
    exact hkx177 s_self h
  · replace h := it_n c_1 h
    refine gd_iconst X (v := 0) d_Md_findComes_97 (by decide) ?_
    refine gd_istore_n X (lv' := [(3, .int 0), (0, .ref (a_self 0)), (1, .int v1), (2, .int v2)]) d_Md_findComes_98 rfl (by decide) rfl ?_
    refine gd_loc (lv' := [(0, .ref (a_self 0)), (1, .int v1), (2, .int v2), (3, .int 0)]) [1, 2, 3, 0] rfl ?_
    exact tl_Md_findComes_99 a_self a_least X hr hlk N f_self v1 v2 (fun s_self => f_Md_findComes_171 N kb kx177 s_self v1 v2) (fun s_self h => t_Md_findComes_171 a_self a_least X hr hlk N f_self s_self v1 v2 kb hkb kx177 hkx177 h) N s_self 0 h
def f_Md_findComes_177 (N : Nat) (kb : (Nat → Nat → Int32) → Int32 → Option ((Nat → Nat → Int32))) (kx183 : (Nat → Nat → Int32) → Option ((Nat → Nat → Int32))) (s_self : Nat → Nat → Int32) (v1 : Int32) : Option ((Nat → Nat → Int32)) :=
  nm (v1 + 1) fun v1_1 =>
  kb s_self v1_1
set_option maxHeartbeats 4000000 in
set_option maxRecDepth 100000 in
theorem t_Md_findComes_177 {p : Program} {l : Launch} {e : Env} {s : State} {m : MethodId} {args : Array Value} {below : List Frame} {meth : Method} {c : Code} {A : Nat → Prop} {D : va_G} {K : Nat → ClassId} (a_self a_least : Nat → Nat) (X : gx p s m args c b_Md_findComes 4 R_Md w_Md_findComes D classes (tyK K) A) (hr : meth.sig.returnType = none) (hlk : meth.locks = false) (N : Nat) (f_self : Nat → Nat → Int32) (s_self : Nat → Nat → Int32) (v1 : Int32) (kb : (Nat → Nat → Int32) → Int32 → Option ((Nat → Nat → Int32))) (hkb : ∀ (s_self : Nat → Nat → Int32) (v1 : Int32), kb s_self v1 = some f_self → Gd p l e rm_Md_findComes s m args below meth c 0 0 (MQ below (sq D classes (tyK K) none [wd_Md K a_self (a_least 0) f_self] A) args s 0 0 A) D classes A 4 79 [wd_Md K a_self (a_least 0) s_self] [(0, .ref (a_self 0)), (1, .int v1)] []) (kx183 : (Nat → Nat → Int32) → Option ((Nat → Nat → Int32))) (hkx183 : ∀ (s_self : Nat → Nat → Int32), kx183 s_self = some f_self → Gd p l e rm_Md_findComes s m args below meth c 0 0 (MQ below (sq D classes (tyK K) none [wd_Md K a_self (a_least 0) f_self] A) args s 0 0 A) D classes A 4 183 [wd_Md K a_self (a_least 0) s_self] [] []) (h : f_Md_findComes_177 N kb kx183 s_self v1 = some f_self) : Gd p l e rm_Md_findComes s m args below meth c 0 0 (MQ below (sq D classes (tyK K) none [wd_Md K a_self (a_least 0) f_self] A) args s 0 0 A) D classes A 4 177 [wd_Md K a_self (a_least 0) s_self] [(0, .ref (a_self 0)), (1, .int v1)] [] := by
  unfold f_Md_findComes_177 at h
  obtain ⟨v1_1, ev1_1, h⟩ := nm_e' h
  refine gd_iinc X (v := v1_1) (lv' := [(1, .int v1_1), (0, .ref (a_self 0))]) d_Md_findComes_177 (k := 1) rfl (by rw [ev1_1]; rfl) (by decide) rfl ?_
  refine gd_goto X (tgt := 79) d_Md_findComes_180 (by decide) ?_
  refine gd_loc (lv' := [(0, .ref (a_self 0)), (1, .int v1_1)]) [1, 0] rfl ?_
  exact hkb s_self v1_1 h
def l_Md_findComes_89 (N : Nat) (v1 : Int32) (kx177 : (Nat → Nat → Int32) → Option ((Nat → Nat → Int32))) : Nat → (Nat → Nat → Int32) → Int32 → Option ((Nat → Nat → Int32))
  | 0, _, _ => none
  | n + 1, s_self, v2 => f_Md_findComes_89 N (l_Md_findComes_89 N v1 kx177 n) kx177 s_self v1 v2
set_option maxHeartbeats 4000000 in
set_option maxRecDepth 100000 in
theorem tl_Md_findComes_89 {p : Program} {l : Launch} {e : Env} {s : State} {m : MethodId} {args : Array Value} {below : List Frame} {meth : Method} {c : Code} {A : Nat → Prop} {D : va_G} {K : Nat → ClassId} (a_self a_least : Nat → Nat) (X : gx p s m args c b_Md_findComes 4 R_Md w_Md_findComes D classes (tyK K) A) (hr : meth.sig.returnType = none) (hlk : meth.locks = false) (N : Nat) (f_self : Nat → Nat → Int32) (v1 : Int32) (kx177 : (Nat → Nat → Int32) → Option ((Nat → Nat → Int32))) (hkx177 : ∀ (s_self : Nat → Nat → Int32), kx177 s_self = some f_self → Gd p l e rm_Md_findComes s m args below meth c 0 0 (MQ below (sq D classes (tyK K) none [wd_Md K a_self (a_least 0) f_self] A) args s 0 0 A) D classes A 4 177 [wd_Md K a_self (a_least 0) s_self] [(0, .ref (a_self 0)), (1, .int v1)] []) : ∀ (n : Nat) (s_self : Nat → Nat → Int32) (v2 : Int32), l_Md_findComes_89 N v1 kx177 n s_self v2 = some f_self → Gd p l e rm_Md_findComes s m args below meth c 0 0 (MQ below (sq D classes (tyK K) none [wd_Md K a_self (a_least 0) f_self] A) args s 0 0 A) D classes A 4 89 [wd_Md K a_self (a_least 0) s_self] [(0, .ref (a_self 0)), (1, .int v1), (2, .int v2)] [] := by
  intro n
  induction n with
  | zero => intro s_self v2 h; have h : (none : Option ((Nat → Nat → Int32))) = some _ := h; cases h
  | succ n ih =>
    intro s_self v2 h
    exact t_Md_findComes_89 a_self a_least X hr hlk N f_self s_self v1 v2 (l_Md_findComes_89 N v1 kx177 n) ih kx177 hkx177 h
def f_Md_findComes_79 (N : Nat) (kb : (Nat → Nat → Int32) → Int32 → Option ((Nat → Nat → Int32))) (kx183 : (Nat → Nat → Int32) → Option ((Nat → Nat → Int32))) (s_self : Nat → Nat → Int32) (v1 : Int32) : Option ((Nat → Nat → Int32)) :=
  if (s_self 0 1) ≤ v1 then
    kx183 s_self
  else
    l_Md_findComes_89 N v1 (fun s_self => f_Md_findComes_177 N kb kx183 s_self v1) N s_self 0
set_option maxHeartbeats 4000000 in
set_option maxRecDepth 100000 in
theorem t_Md_findComes_79 {p : Program} {l : Launch} {e : Env} {s : State} {m : MethodId} {args : Array Value} {below : List Frame} {meth : Method} {c : Code} {A : Nat → Prop} {D : va_G} {K : Nat → ClassId} (a_self a_least : Nat → Nat) (X : gx p s m args c b_Md_findComes 4 R_Md w_Md_findComes D classes (tyK K) A) (hr : meth.sig.returnType = none) (hlk : meth.locks = false) (N : Nat) (f_self : Nat → Nat → Int32) (s_self : Nat → Nat → Int32) (v1 : Int32) (kb : (Nat → Nat → Int32) → Int32 → Option ((Nat → Nat → Int32))) (hkb : ∀ (s_self : Nat → Nat → Int32) (v1 : Int32), kb s_self v1 = some f_self → Gd p l e rm_Md_findComes s m args below meth c 0 0 (MQ below (sq D classes (tyK K) none [wd_Md K a_self (a_least 0) f_self] A) args s 0 0 A) D classes A 4 79 [wd_Md K a_self (a_least 0) s_self] [(0, .ref (a_self 0)), (1, .int v1)] []) (kx183 : (Nat → Nat → Int32) → Option ((Nat → Nat → Int32))) (hkx183 : ∀ (s_self : Nat → Nat → Int32), kx183 s_self = some f_self → Gd p l e rm_Md_findComes s m args below meth c 0 0 (MQ below (sq D classes (tyK K) none [wd_Md K a_self (a_least 0) f_self] A) args s 0 0 A) D classes A 4 183 [wd_Md K a_self (a_least 0) s_self] [] []) (h : f_Md_findComes_79 N kb kx183 s_self v1 = some f_self) : Gd p l e rm_Md_findComes s m args below meth c 0 0 (MQ below (sq D classes (tyK K) none [wd_Md K a_self (a_least 0) f_self] A) args s 0 0 A) D classes A 4 79 [wd_Md K a_self (a_least 0) s_self] [(0, .ref (a_self 0)), (1, .int v1)] [] := by
  unfold f_Md_findComes_79 at h
  refine gd_iload_n X d_Md_findComes_79 1 rfl ?_
  refine gd_aload_n X d_Md_findComes_80 0 rfl ?_
  refine gd_get X (ci := 7) (C := R_Md) (T := F_Md) (N := 36) (v := .int (s_self 0 1)) 0 0 rfl rfl rfl (in_Md _) 1 (by decide) (List.mem_cons_of_mem _ fl_Md_89) rfl rfl d_Md_findComes_81 ?_
  refine gd_icmp_ge X (tgt := 183) d_Md_findComes_84 (by decide) (fun c_1 => ?_) (fun c_1 => ?_)
  · replace h := it_p c_1 h
    refine gd_loc (lv' := []) [] rfl ?_
    exact hkx183 s_self h
  · replace h := it_n c_1 h
    refine gd_iconst X (v := 0) d_Md_findComes_87 (by decide) ?_
    refine gd_istore_n X (lv' := [(2, .int 0), (0, .ref (a_self 0)), (1, .int v1)]) d_Md_findComes_88 rfl (by decide) rfl ?_
    refine gd_loc (lv' := [(0, .ref (a_self 0)), (1, .int v1), (2, .int 0)]) [1, 2, 0] rfl ?_
    exact tl_Md_findComes_89 a_self a_least X hr hlk N f_self v1 (fun s_self => f_Md_findComes_177 N kb kx183 s_self v1) (fun s_self h => t_Md_findComes_177 a_self a_least X hr hlk N f_self s_self v1 kb hkb kx183 hkx183 h) N s_self 0 h
def f_Md_findComes_183 (N : Nat) (s_self : Nat → Nat → Int32) : Option ((Nat → Nat → Int32)) :=
  some s_self
set_option maxHeartbeats 4000000 in
set_option maxRecDepth 100000 in
theorem t_Md_findComes_183 {p : Program} {l : Launch} {e : Env} {s : State} {m : MethodId} {args : Array Value} {below : List Frame} {meth : Method} {c : Code} {A : Nat → Prop} {D : va_G} {K : Nat → ClassId} (a_self a_least : Nat → Nat) (X : gx p s m args c b_Md_findComes 4 R_Md w_Md_findComes D classes (tyK K) A) (hr : meth.sig.returnType = none) (hlk : meth.locks = false) (N : Nat) (f_self : Nat → Nat → Int32) (s_self : Nat → Nat → Int32) (h : f_Md_findComes_183 N s_self = some f_self) : Gd p l e rm_Md_findComes s m args below meth c 0 0 (MQ below (sq D classes (tyK K) none [wd_Md K a_self (a_least 0) f_self] A) args s 0 0 A) D classes A 4 183 [wd_Md K a_self (a_least 0) s_self] [] [] := by
  unfold f_Md_findComes_183 at h
  cases h
  exact gd_vret X hr hlk d_Md_findComes_183
def l_Md_findComes_79 (N : Nat) (kx183 : (Nat → Nat → Int32) → Option ((Nat → Nat → Int32))) : Nat → (Nat → Nat → Int32) → Int32 → Option ((Nat → Nat → Int32))
  | 0, _, _ => none
  | n + 1, s_self, v1 => f_Md_findComes_79 N (l_Md_findComes_79 N kx183 n) kx183 s_self v1
set_option maxHeartbeats 4000000 in
set_option maxRecDepth 100000 in
theorem tl_Md_findComes_79 {p : Program} {l : Launch} {e : Env} {s : State} {m : MethodId} {args : Array Value} {below : List Frame} {meth : Method} {c : Code} {A : Nat → Prop} {D : va_G} {K : Nat → ClassId} (a_self a_least : Nat → Nat) (X : gx p s m args c b_Md_findComes 4 R_Md w_Md_findComes D classes (tyK K) A) (hr : meth.sig.returnType = none) (hlk : meth.locks = false) (N : Nat) (f_self : Nat → Nat → Int32) (kx183 : (Nat → Nat → Int32) → Option ((Nat → Nat → Int32))) (hkx183 : ∀ (s_self : Nat → Nat → Int32), kx183 s_self = some f_self → Gd p l e rm_Md_findComes s m args below meth c 0 0 (MQ below (sq D classes (tyK K) none [wd_Md K a_self (a_least 0) f_self] A) args s 0 0 A) D classes A 4 183 [wd_Md K a_self (a_least 0) s_self] [] []) : ∀ (n : Nat) (s_self : Nat → Nat → Int32) (v1 : Int32), l_Md_findComes_79 N kx183 n s_self v1 = some f_self → Gd p l e rm_Md_findComes s m args below meth c 0 0 (MQ below (sq D classes (tyK K) none [wd_Md K a_self (a_least 0) f_self] A) args s 0 0 A) D classes A 4 79 [wd_Md K a_self (a_least 0) s_self] [(0, .ref (a_self 0)), (1, .int v1)] [] := by
  intro n
  induction n with
  | zero => intro s_self v1 h; have h : (none : Option ((Nat → Nat → Int32))) = some _ := h; cases h
  | succ n ih =>
    intro s_self v1 h
    exact t_Md_findComes_79 a_self a_least X hr hlk N f_self s_self v1 (l_Md_findComes_79 N kx183 n) ih kx183 hkx183 h
def f_Md_findComes_77 (N : Nat) (s_self : Nat → Nat → Int32) : Option ((Nat → Nat → Int32)) :=
  l_Md_findComes_79 N (fun s_self => f_Md_findComes_183 N s_self) N s_self 0
set_option maxHeartbeats 4000000 in
set_option maxRecDepth 100000 in
theorem t_Md_findComes_77 {p : Program} {l : Launch} {e : Env} {s : State} {m : MethodId} {args : Array Value} {below : List Frame} {meth : Method} {c : Code} {A : Nat → Prop} {D : va_G} {K : Nat → ClassId} (a_self a_least : Nat → Nat) (X : gx p s m args c b_Md_findComes 4 R_Md w_Md_findComes D classes (tyK K) A) (hr : meth.sig.returnType = none) (hlk : meth.locks = false) (N : Nat) (f_self : Nat → Nat → Int32) (s_self : Nat → Nat → Int32) (h : f_Md_findComes_77 N s_self = some f_self) : Gd p l e rm_Md_findComes s m args below meth c 0 0 (MQ below (sq D classes (tyK K) none [wd_Md K a_self (a_least 0) f_self] A) args s 0 0 A) D classes A 4 77 [wd_Md K a_self (a_least 0) s_self] [(0, .ref (a_self 0))] [] := by
  unfold f_Md_findComes_77 at h
  refine gd_iconst X (v := 0) d_Md_findComes_77 (by decide) ?_
  refine gd_istore_n X (lv' := [(1, .int 0), (0, .ref (a_self 0))]) d_Md_findComes_78 rfl (by decide) rfl ?_
  refine gd_loc (lv' := [(0, .ref (a_self 0)), (1, .int 0)]) [1, 0] rfl ?_
  exact tl_Md_findComes_79 a_self a_least X hr hlk N f_self (fun s_self => f_Md_findComes_183 N s_self) (fun s_self h => t_Md_findComes_183 a_self a_least X hr hlk N f_self s_self h) N s_self 0 h
def l_Md_findComes_23 (N : Nat) (kx77 : (Nat → Nat → Int32) → Option ((Nat → Nat → Int32))) : Nat → (Nat → Nat → Int32) → Int32 → Option ((Nat → Nat → Int32))
  | 0, _, _ => none
  | n + 1, s_self, v1 => f_Md_findComes_23 N (l_Md_findComes_23 N kx77 n) kx77 s_self v1
set_option maxHeartbeats 4000000 in
set_option maxRecDepth 100000 in
theorem tl_Md_findComes_23 {p : Program} {l : Launch} {e : Env} {s : State} {m : MethodId} {args : Array Value} {below : List Frame} {meth : Method} {c : Code} {A : Nat → Prop} {D : va_G} {K : Nat → ClassId} (a_self a_least : Nat → Nat) (X : gx p s m args c b_Md_findComes 4 R_Md w_Md_findComes D classes (tyK K) A) (hr : meth.sig.returnType = none) (hlk : meth.locks = false) (N : Nat) (f_self : Nat → Nat → Int32) (kx77 : (Nat → Nat → Int32) → Option ((Nat → Nat → Int32))) (hkx77 : ∀ (s_self : Nat → Nat → Int32), kx77 s_self = some f_self → Gd p l e rm_Md_findComes s m args below meth c 0 0 (MQ below (sq D classes (tyK K) none [wd_Md K a_self (a_least 0) f_self] A) args s 0 0 A) D classes A 4 77 [wd_Md K a_self (a_least 0) s_self] [(0, .ref (a_self 0))] []) : ∀ (n : Nat) (s_self : Nat → Nat → Int32) (v1 : Int32), l_Md_findComes_23 N kx77 n s_self v1 = some f_self → Gd p l e rm_Md_findComes s m args below meth c 0 0 (MQ below (sq D classes (tyK K) none [wd_Md K a_self (a_least 0) f_self] A) args s 0 0 A) D classes A 4 23 [wd_Md K a_self (a_least 0) s_self] [(0, .ref (a_self 0)), (1, .int v1)] [] := by
  intro n
  induction n with
  | zero => intro s_self v1 h; have h : (none : Option ((Nat → Nat → Int32))) = some _ := h; cases h
  | succ n ih =>
    intro s_self v1 h
    exact t_Md_findComes_23 a_self a_least X hr hlk N f_self s_self v1 (l_Md_findComes_23 N kx77 n) ih kx77 hkx77 h
def f_Md_findComes_21 (N : Nat) (s_self : Nat → Nat → Int32) : Option ((Nat → Nat → Int32)) :=
  l_Md_findComes_23 N (fun s_self => f_Md_findComes_77 N s_self) N s_self 0
set_option maxHeartbeats 4000000 in
set_option maxRecDepth 100000 in
theorem t_Md_findComes_21 {p : Program} {l : Launch} {e : Env} {s : State} {m : MethodId} {args : Array Value} {below : List Frame} {meth : Method} {c : Code} {A : Nat → Prop} {D : va_G} {K : Nat → ClassId} (a_self a_least : Nat → Nat) (X : gx p s m args c b_Md_findComes 4 R_Md w_Md_findComes D classes (tyK K) A) (hr : meth.sig.returnType = none) (hlk : meth.locks = false) (N : Nat) (f_self : Nat → Nat → Int32) (s_self : Nat → Nat → Int32) (h : f_Md_findComes_21 N s_self = some f_self) : Gd p l e rm_Md_findComes s m args below meth c 0 0 (MQ below (sq D classes (tyK K) none [wd_Md K a_self (a_least 0) f_self] A) args s 0 0 A) D classes A 4 21 [wd_Md K a_self (a_least 0) s_self] [(0, .ref (a_self 0))] [] := by
  unfold f_Md_findComes_21 at h
  refine gd_iconst X (v := 0) d_Md_findComes_21 (by decide) ?_
  refine gd_istore_n X (lv' := [(1, .int 0), (0, .ref (a_self 0))]) d_Md_findComes_22 rfl (by decide) rfl ?_
  refine gd_loc (lv' := [(0, .ref (a_self 0)), (1, .int 0)]) [1, 0] rfl ?_
  exact tl_Md_findComes_23 a_self a_least X hr hlk N f_self (fun s_self => f_Md_findComes_77 N s_self) (fun s_self h => t_Md_findComes_77 a_self a_least X hr hlk N f_self s_self h) N s_self 0 h
def l_Md_findComes_2 (N : Nat) (kx21 : (Nat → Nat → Int32) → Option ((Nat → Nat → Int32))) : Nat → (Nat → Nat → Int32) → Int32 → Option ((Nat → Nat → Int32))
  | 0, _, _ => none
  | n + 1, s_self, v1 => f_Md_findComes_2 N (l_Md_findComes_2 N kx21 n) kx21 s_self v1
set_option maxHeartbeats 4000000 in
set_option maxRecDepth 100000 in
theorem tl_Md_findComes_2 {p : Program} {l : Launch} {e : Env} {s : State} {m : MethodId} {args : Array Value} {below : List Frame} {meth : Method} {c : Code} {A : Nat → Prop} {D : va_G} {K : Nat → ClassId} (a_self a_least : Nat → Nat) (X : gx p s m args c b_Md_findComes 4 R_Md w_Md_findComes D classes (tyK K) A) (hr : meth.sig.returnType = none) (hlk : meth.locks = false) (N : Nat) (f_self : Nat → Nat → Int32) (kx21 : (Nat → Nat → Int32) → Option ((Nat → Nat → Int32))) (hkx21 : ∀ (s_self : Nat → Nat → Int32), kx21 s_self = some f_self → Gd p l e rm_Md_findComes s m args below meth c 0 0 (MQ below (sq D classes (tyK K) none [wd_Md K a_self (a_least 0) f_self] A) args s 0 0 A) D classes A 4 21 [wd_Md K a_self (a_least 0) s_self] [(0, .ref (a_self 0))] []) : ∀ (n : Nat) (s_self : Nat → Nat → Int32) (v1 : Int32), l_Md_findComes_2 N kx21 n s_self v1 = some f_self → Gd p l e rm_Md_findComes s m args below meth c 0 0 (MQ below (sq D classes (tyK K) none [wd_Md K a_self (a_least 0) f_self] A) args s 0 0 A) D classes A 4 2 [wd_Md K a_self (a_least 0) s_self] [(0, .ref (a_self 0)), (1, .int v1)] [] := by
  intro n
  induction n with
  | zero => intro s_self v1 h; have h : (none : Option ((Nat → Nat → Int32))) = some _ := h; cases h
  | succ n ih =>
    intro s_self v1 h
    exact t_Md_findComes_2 a_self a_least X hr hlk N f_self s_self v1 (l_Md_findComes_2 N kx21 n) ih kx21 hkx21 h
def f_Md_findComes_0 (N : Nat) (s_self : Nat → Nat → Int32) : Option ((Nat → Nat → Int32)) :=
  l_Md_findComes_2 N (fun s_self => f_Md_findComes_21 N s_self) N s_self 0
set_option maxHeartbeats 4000000 in
set_option maxRecDepth 100000 in
theorem t_Md_findComes_0 {p : Program} {l : Launch} {e : Env} {s : State} {m : MethodId} {args : Array Value} {below : List Frame} {meth : Method} {c : Code} {A : Nat → Prop} {D : va_G} {K : Nat → ClassId} (a_self a_least : Nat → Nat) (X : gx p s m args c b_Md_findComes 4 R_Md w_Md_findComes D classes (tyK K) A) (hr : meth.sig.returnType = none) (hlk : meth.locks = false) (N : Nat) (f_self : Nat → Nat → Int32) (s_self : Nat → Nat → Int32) (h : f_Md_findComes_0 N s_self = some f_self) : Gd p l e rm_Md_findComes s m args below meth c 0 0 (MQ below (sq D classes (tyK K) none [wd_Md K a_self (a_least 0) f_self] A) args s 0 0 A) D classes A 4 0 [wd_Md K a_self (a_least 0) s_self] [(0, .ref (a_self 0))] [] := by
  unfold f_Md_findComes_0 at h
  refine gd_iconst X (v := 0) d_Md_findComes_0 (by decide) ?_
  refine gd_istore_n X (lv' := [(1, .int 0), (0, .ref (a_self 0))]) d_Md_findComes_1 rfl (by decide) rfl ?_
  refine gd_loc (lv' := [(0, .ref (a_self 0)), (1, .int 0)]) [1, 0] rfl ?_
  exact tl_Md_findComes_2 a_self a_least X hr hlk N f_self (fun s_self => f_Md_findComes_21 N s_self) (fun s_self h => t_Md_findComes_21 a_self a_least X hr hlk N f_self s_self h) N s_self 0 h
def m_Md_findComes (N : Nat) (s_self : Nat → Nat → Int32) : Option ((Nat → Nat → Int32)) := f_Md_findComes_0 N s_self
set_option maxHeartbeats 4000000 in
set_option maxRecDepth 100000 in
theorem c_Md_findComes (l : Launch) (D : va_G) (K : Nat → ClassId) (a_self a_least : Nat → Nat) (N : Nat) (s_self : Nat → Nat → Int32) (f_self : Nat → Nat → Int32) (h : m_Md_findComes N s_self = some f_self) : SMet l y_Md_findComes w_Md_findComes rm_Md_findComes D classes (tyK K) [.ref (a_self 0)] none [wd_Md K a_self (a_least 0) s_self] [wd_Md K a_self (a_least 0) f_self] := by
  refine sm_of R_Md (by decide) rfl rfl (Nat.le_of_ble_eq_true rfl) ?_
  intro p e s m below meth c A X hr hlk
  refine gd_loc (lv' := [(0, .ref (a_self 0))]) [0] rfl ?_
  exact t_Md_findComes_0 a_self a_least X hr hlk N f_self s_self h
abbrev b_Md_reaches : ByteArray := prog_10_method_28_code
def y_Md_reaches : MethodName := ⟨R_Md, "reaches", "(II)Z"⟩
def w_Md_reaches : List Cond := .code y_Md_reaches b_Md_reaches 3 (some .boolean) :: TB
theorem k_Md_reaches : Cond.code y_Md_reaches b_Md_reaches 3 (some .boolean) ∈ TB := tb_of 949 (by decide +kernel) (by decide +kernel)
theorem d_Md_reaches_0 : decode b_Md_reaches 0 = .ok (.iload_n 1, 1) := by decide +kernel
theorem d_Md_reaches_1 : decode b_Md_reaches 1 = .ok (.iload_n 2, 1) := by decide +kernel
theorem d_Md_reaches_2 : decode b_Md_reaches 2 = .ok (.if_icmp .eq 17, 3) := by decide +kernel
theorem d_Md_reaches_5 : decode b_Md_reaches 5 = .ok (.aload_n 0, 1) := by decide +kernel
theorem d_Md_reaches_6 : decode b_Md_reaches 6 = .ok (.getfield 66, 3) := by decide +kernel
theorem d_Md_reaches_9 : decode b_Md_reaches 9 = .ok (.bipush 6, 2) := by decide +kernel
theorem d_Md_reaches_11 : decode b_Md_reaches 11 = .ok (.iload_n 1, 1) := by decide +kernel
theorem d_Md_reaches_12 : decode b_Md_reaches 12 = .ok (.imul, 1) := by decide +kernel
theorem d_Md_reaches_13 : decode b_Md_reaches 13 = .ok (.iload_n 2, 1) := by decide +kernel
theorem d_Md_reaches_14 : decode b_Md_reaches 14 = .ok (.iadd, 1) := by decide +kernel
theorem d_Md_reaches_15 : decode b_Md_reaches 15 = .ok (.baload, 1) := by decide +kernel
theorem d_Md_reaches_16 : decode b_Md_reaches 16 = .ok (.ifCond .eq 7, 3) := by decide +kernel
theorem d_Md_reaches_19 : decode b_Md_reaches 19 = .ok (.iconst 1, 1) := by decide +kernel
theorem d_Md_reaches_20 : decode b_Md_reaches 20 = .ok (.goto 4, 3) := by decide +kernel
theorem d_Md_reaches_23 : decode b_Md_reaches 23 = .ok (.iconst 0, 1) := by decide +kernel
theorem d_Md_reaches_24 : decode b_Md_reaches 24 = .ok (.ireturn, 1) := by decide +kernel
abbrev rm_Md_reaches : Room := { frames := 0, cells := 0, slots := 0, locals := 0 }
def f_Md_reaches_0 (s_self : Nat → Nat → Int32) (v1 v2 : Int32) : Option ((Int32)) :=
  if v1 = v2 then
    some (1)
  else
    ck ((6 * v1) + v2) 36 <|
    if (s_self 18 (Int32.toNatClampNeg ((6 * v1) + v2))) = 0 then
      some (0)
    else
      some (1)
set_option maxHeartbeats 4000000 in
set_option maxRecDepth 100000 in
theorem t_Md_reaches_0 {p : Program} {l : Launch} {e : Env} {s : State} {m : MethodId} {args : Array Value} {below : List Frame} {meth : Method} {c : Code} {A : Nat → Prop} {D : va_G} {K : Nat → ClassId} (a_self a_least : Nat → Nat) (X : gx p s m args c b_Md_reaches 3 R_Md w_Md_reaches D classes (tyK K) A) (hr : meth.sig.returnType = some .boolean) (hlk : meth.locks = false) (r : Int32) (s_self : Nat → Nat → Int32) (v1 v2 : Int32) (h : f_Md_reaches_0 s_self v1 v2 = some r) : Gd p l e rm_Md_reaches s m args below meth c 0 0 (MQ below (sq D classes (tyK K) (some (.int r)) [wd_Md K a_self (a_least 0) s_self] A) args s 0 0 A) D classes A 3 0 [wd_Md K a_self (a_least 0) s_self] [(0, .ref (a_self 0)), (1, .int v1), (2, .int v2)] [] := by
  unfold f_Md_reaches_0 at h
  refine gd_iload_n X d_Md_reaches_0 1 rfl ?_
  refine gd_iload_n X d_Md_reaches_1 2 rfl ?_
  refine gd_icmp_eq X (tgt := 19) d_Md_reaches_2 (by decide) (fun c_1 => ?_) (fun c_1 => ?_)
  · replace h := it_p c_1 h
    refine gd_iconst X (v := 1) d_Md_reaches_19 (by decide) ?_
    refine gd_goto X (tgt := 24) d_Md_reaches_20 (by decide) ?_
    cases h
    exact gd_zret X hr hlk (by decide) d_Md_reaches_24
  · replace h := it_n c_1 h
    refine gd_aload_n X d_Md_reaches_5 0 rfl ?_
    refine gd_get X (ci := 7) (C := R_Md) (T := F_Md) (N := 36) (v := .ref (a_self 18)) 0 0 rfl rfl rfl (in_Md _) 29 (by decide) (List.mem_cons_of_mem _ fl_Md_66) rfl rfl d_Md_reaches_6 ?_
    refine gd_bipush X (v := 6) d_Md_reaches_9 (by decide) ?_
    refine gd_iload_n X d_Md_reaches_11 1 rfl ?_
    refine gd_imul X d_Md_reaches_12 ?_
    refine gd_iload_n X d_Md_reaches_13 2 rfl ?_
    refine gd_iadd X d_Md_reaches_14 ?_
    obtain ⟨hi_2, h⟩ := ck_e h
    refine gd_zald X 0 18 1 rfl rfl rfl hi_2 d_Md_reaches_15 ?_
    refine gd_if_eq X (tgt := 23) d_Md_reaches_16 (by decide) (fun c_3 => ?_) (fun c_3 => ?_)
    · replace h := it_p c_3 h
      refine gd_iconst X (v := 0) d_Md_reaches_23 (by decide) ?_
      cases h
      exact gd_zret X hr hlk (by decide) d_Md_reaches_24
    · replace h := it_n c_3 h
      refine gd_iconst X (v := 1) d_Md_reaches_19 (by decide) ?_
      refine gd_goto X (tgt := 24) d_Md_reaches_20 (by decide) ?_
      cases h
      exact gd_zret X hr hlk (by decide) d_Md_reaches_24
def m_Md_reaches (s_self : Nat → Nat → Int32) (v1 v2 : Int32) : Option ((Int32)) := f_Md_reaches_0 s_self v1 v2
set_option maxHeartbeats 4000000 in
set_option maxRecDepth 100000 in
theorem c_Md_reaches (l : Launch) (D : va_G) (K : Nat → ClassId) (a_self a_least : Nat → Nat) (s_self : Nat → Nat → Int32) (v1 v2 : Int32) (r : Int32) (h : m_Md_reaches s_self v1 v2 = some r) : SMet l y_Md_reaches w_Md_reaches rm_Md_reaches D classes (tyK K) [.ref (a_self 0), .int v1, .int v2] (some (.int r)) [wd_Md K a_self (a_least 0) s_self] [wd_Md K a_self (a_least 0) s_self] := by
  refine sm_of R_Md (by decide) rfl rfl (Nat.le_of_ble_eq_true rfl) ?_
  intro p e s m below meth c A X hr hlk
  refine gd_loc (lv' := [(0, .ref (a_self 0)), (1, .int v1), (2, .int v2)]) [0, 1, 2] rfl ?_
  exact t_Md_reaches_0 a_self a_least X hr hlk r s_self v1 v2 h
