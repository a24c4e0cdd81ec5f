abbrev b_Md_shortest : ByteArray := prog_10_method_47_code
def y_Md_shortest : MethodName := ⟨R_Md, "shortest", "(I)I"⟩
def w_Md_shortest : List Cond := .code y_Md_shortest b_Md_shortest 10 (some .int) :: TB
theorem k_Md_shortest : Cond.code y_Md_shortest b_Md_shortest 10 (some .int) ∈ TB := tb_of 1009 (by decide +kernel) (by decide +kernel)
theorem d_Md_shortest_0 : decode b_Md_shortest 0 = .ok (.aload_n 0, 1) := by decide +kernel
theorem d_Md_shortest_1 : decode b_Md_shortest 1 = .ok (.iconst 0, 1) := by decide +kernel
theorem d_Md_shortest_2 : decode b_Md_shortest 2 = .ok (.putfield 86, 3) := by decide +kernel
theorem d_Md_shortest_5 : decode b_Md_shortest 5 = .ok (.aload_n 0, 1) := by decide +kernel
theorem d_Md_shortest_6 : decode b_Md_shortest 6 = .ok (.iload_n 1, 1) := by decide +kernel
theorem d_Md_shortest_7 : decode b_Md_shortest 7 = .ok (.invokevirtual 99, 3) := by decide +kernel
theorem d_Md_shortest_10 : decode b_Md_shortest 10 = .ok (.ifCond .ne 5, 3) := by decide +kernel
theorem d_Md_shortest_13 : decode b_Md_shortest 13 = .ok (.iconst (-1), 1) := by decide +kernel
theorem d_Md_shortest_14 : decode b_Md_shortest 14 = .ok (.ireturn, 1) := by decide +kernel
theorem d_Md_shortest_15 : decode b_Md_shortest 15 = .ok (.iconst 0, 1) := by decide +kernel
theorem d_Md_shortest_16 : decode b_Md_shortest 16 = .ok (.istore_n 2, 1) := by decide +kernel
theorem d_Md_shortest_17 : decode b_Md_shortest 17 = .ok (.iload_n 2, 1) := by decide +kernel
theorem d_Md_shortest_18 : decode b_Md_shortest 18 = .ok (.bipush 6, 2) := by decide +kernel
theorem d_Md_shortest_20 : decode b_Md_shortest 20 = .ok (.if_icmp .ge 18, 3) := by decide +kernel
theorem d_Md_shortest_23 : decode b_Md_shortest 23 = .ok (.aload_n 0, 1) := by decide +kernel
theorem d_Md_shortest_24 : decode b_Md_shortest 24 = .ok (.getfield 82, 3) := by decide +kernel
theorem d_Md_shortest_27 : decode b_Md_shortest 27 = .ok (.iload_n 2, 1) := by decide +kernel
theorem d_Md_shortest_28 : decode b_Md_shortest 28 = .ok (.ldc2_w 222, 3) := by decide +kernel
theorem d_Md_shortest_31 : decode b_Md_shortest 31 = .ok (.lastore, 1) := by decide +kernel
theorem d_Md_shortest_32 : decode b_Md_shortest 32 = .ok (.iinc 2 1, 3) := by decide +kernel
theorem d_Md_shortest_35 : decode b_Md_shortest 35 = .ok (.goto (-18), 3) := by decide +kernel
theorem d_Md_shortest_38 : decode b_Md_shortest 38 = .ok (.iconst 1, 1) := by decide +kernel
theorem d_Md_shortest_39 : decode b_Md_shortest 39 = .ok (.istore_n 2, 1) := by decide +kernel
theorem d_Md_shortest_40 : decode b_Md_shortest 40 = .ok (.iload_n 2, 1) := by decide +kernel
theorem d_Md_shortest_41 : decode b_Md_shortest 41 = .ok (.ifCond .eq 168, 3) := by decide +kernel
theorem d_Md_shortest_44 : decode b_Md_shortest 44 = .ok (.iconst 0, 1) := by decide +kernel
theorem d_Md_shortest_45 : decode b_Md_shortest 45 = .ok (.istore_n 2, 1) := by decide +kernel
theorem d_Md_shortest_46 : decode b_Md_shortest 46 = .ok (.iconst 0, 1) := by decide +kernel
theorem d_Md_shortest_47 : decode b_Md_shortest 47 = .ok (.istore_n 3, 1) := by decide +kernel
theorem d_Md_shortest_48 : decode b_Md_shortest 48 = .ok (.iload_n 3, 1) := by decide +kernel
theorem d_Md_shortest_49 : decode b_Md_shortest 49 = .ok (.aload_n 0, 1) := by decide +kernel
theorem d_Md_shortest_50 : decode b_Md_shortest 50 = .ok (.getfield 103, 3) := by decide +kernel
theorem d_Md_shortest_53 : decode b_Md_shortest 53 = .ok (.if_icmp .ge 153, 3) := by decide +kernel
theorem d_Md_shortest_56 : decode b_Md_shortest 56 = .ok (.lconst 0, 1) := by decide +kernel
theorem d_Md_shortest_57 : decode b_Md_shortest 57 = .ok (.lstore 4, 2) := by decide +kernel
theorem d_Md_shortest_59 : decode b_Md_shortest 59 = .ok (.iconst 0, 1) := by decide +kernel
theorem d_Md_shortest_60 : decode b_Md_shortest 60 = .ok (.istore 6, 2) := by decide +kernel
theorem d_Md_shortest_62 : decode b_Md_shortest 62 = .ok (.iload 6, 2) := by decide +kernel
theorem d_Md_shortest_64 : decode b_Md_shortest 64 = .ok (.aload_n 0, 1) := by decide +kernel
theorem d_Md_shortest_65 : decode b_Md_shortest 65 = .ok (.getfield 16, 3) := by decide +kernel
theorem d_Md_shortest_68 : decode b_Md_shortest 68 = .ok (.iload_n 3, 1) := by decide +kernel
theorem d_Md_shortest_69 : decode b_Md_shortest 69 = .ok (.iaload, 1) := by decide +kernel
theorem d_Md_shortest_70 : decode b_Md_shortest 70 = .ok (.if_icmp .ge 75, 3) := by decide +kernel
theorem d_Md_shortest_73 : decode b_Md_shortest 73 = .ok (.lload 4, 2) := by decide +kernel
theorem d_Md_shortest_75 : decode b_Md_shortest 75 = .ok (.lconst 0, 1) := by decide +kernel
theorem d_Md_shortest_76 : decode b_Md_shortest 76 = .ok (.lcmp, 1) := by decide +kernel
theorem d_Md_shortest_77 : decode b_Md_shortest 77 = .ok (.ifCond .lt 68, 3) := by decide +kernel
theorem d_Md_shortest_80 : decode b_Md_shortest 80 = .ok (.aload_n 0, 1) := by decide +kernel
theorem d_Md_shortest_81 : decode b_Md_shortest 81 = .ok (.getfield 19, 3) := by decide +kernel
theorem d_Md_shortest_84 : decode b_Md_shortest 84 = .ok (.bipush 8, 2) := by decide +kernel
theorem d_Md_shortest_86 : decode b_Md_shortest 86 = .ok (.iload_n 3, 1) := by decide +kernel
theorem d_Md_shortest_87 : decode b_Md_shortest 87 = .ok (.imul, 1) := by decide +kernel
theorem d_Md_shortest_88 : decode b_Md_shortest 88 = .ok (.iload 6, 2) := by decide +kernel
theorem d_Md_shortest_90 : decode b_Md_shortest 90 = .ok (.iadd, 1) := by decide +kernel
theorem d_Md_shortest_91 : decode b_Md_shortest 91 = .ok (.iaload, 1) := by decide +kernel
theorem d_Md_shortest_92 : decode b_Md_shortest 92 = .ok (.istore 7, 2) := by decide +kernel
theorem d_Md_shortest_94 : decode b_Md_shortest 94 = .ok (.iload 7, 2) := by decide +kernel
theorem d_Md_shortest_96 : decode b_Md_shortest 96 = .ok (.ifCond .lt 7, 3) := by decide +kernel
theorem d_Md_shortest_99 : decode b_Md_shortest 99 = .ok (.lconst 1, 1) := by decide +kernel
theorem d_Md_shortest_100 : decode b_Md_shortest 100 = .ok (.goto 17, 3) := by decide +kernel
theorem d_Md_shortest_103 : decode b_Md_shortest 103 = .ok (.aload_n 0, 1) := by decide +kernel
theorem d_Md_shortest_104 : decode b_Md_shortest 104 = .ok (.getfield 82, 3) := by decide +kernel
theorem d_Md_shortest_107 : decode b_Md_shortest 107 = .ok (.aload_n 0, 1) := by decide +kernel
theorem d_Md_shortest_108 : decode b_Md_shortest 108 = .ok (.getfield 7, 3) := by decide +kernel
theorem d_Md_shortest_111 : decode b_Md_shortest 111 = .ok (.iconst (-1), 1) := by decide +kernel
theorem d_Md_shortest_112 : decode b_Md_shortest 112 = .ok (.iload 7, 2) := by decide +kernel
theorem d_Md_shortest_114 : decode b_Md_shortest 114 = .ok (.isub, 1) := by decide +kernel
theorem d_Md_shortest_115 : decode b_Md_shortest 115 = .ok (.iaload, 1) := by decide +kernel
theorem d_Md_shortest_116 : decode b_Md_shortest 116 = .ok (.laload, 1) := by decide +kernel
theorem d_Md_shortest_117 : decode b_Md_shortest 117 = .ok (.lstore 8, 2) := by decide +kernel
theorem d_Md_shortest_119 : decode b_Md_shortest 119 = .ok (.lload 8, 2) := by decide +kernel
theorem d_Md_shortest_121 : decode b_Md_shortest 121 = .ok (.lconst 0, 1) := by decide +kernel
theorem d_Md_shortest_122 : decode b_Md_shortest 122 = .ok (.lcmp, 1) := by decide +kernel
theorem d_Md_shortest_123 : decode b_Md_shortest 123 = .ok (.ifCond .ge 9, 3) := by decide +kernel
theorem d_Md_shortest_126 : decode b_Md_shortest 126 = .ok (.ldc2_w 222, 3) := by decide +kernel
theorem d_Md_shortest_129 : decode b_Md_shortest 129 = .ok (.goto 8, 3) := by decide +kernel
theorem d_Md_shortest_132 : decode b_Md_shortest 132 = .ok (.lload 4, 2) := by decide +kernel
theorem d_Md_shortest_134 : decode b_Md_shortest 134 = .ok (.lload 8, 2) := by decide +kernel
theorem d_Md_shortest_136 : decode b_Md_shortest 136 = .ok (.ladd, 1) := by decide +kernel
theorem d_Md_shortest_137 : decode b_Md_shortest 137 = .ok (.lstore 4, 2) := by decide +kernel
theorem d_Md_shortest_139 : decode b_Md_shortest 139 = .ok (.iinc 6 1, 3) := by decide +kernel
theorem d_Md_shortest_142 : decode b_Md_shortest 142 = .ok (.goto (-80), 3) := by decide +kernel
theorem d_Md_shortest_145 : decode b_Md_shortest 145 = .ok (.lload 4, 2) := by decide +kernel
theorem d_Md_shortest_147 : decode b_Md_shortest 147 = .ok (.lconst 0, 1) := by decide +kernel
theorem d_Md_shortest_148 : decode b_Md_shortest 148 = .ok (.lcmp, 1) := by decide +kernel
theorem d_Md_shortest_149 : decode b_Md_shortest 149 = .ok (.ifCond .lt 51, 3) := by decide +kernel
theorem d_Md_shortest_152 : decode b_Md_shortest 152 = .ok (.aload_n 0, 1) := by decide +kernel
theorem d_Md_shortest_153 : decode b_Md_shortest 153 = .ok (.getfield 82, 3) := by decide +kernel
theorem d_Md_shortest_156 : decode b_Md_shortest 156 = .ok (.aload_n 0, 1) := by decide +kernel
theorem d_Md_shortest_157 : decode b_Md_shortest 157 = .ok (.getfield 13, 3) := by decide +kernel
theorem d_Md_shortest_160 : decode b_Md_shortest 160 = .ok (.iload_n 3, 1) := by decide +kernel
theorem d_Md_shortest_161 : decode b_Md_shortest 161 = .ok (.iaload, 1) := by decide +kernel
theorem d_Md_shortest_162 : decode b_Md_shortest 162 = .ok (.laload, 1) := by decide +kernel
theorem d_Md_shortest_163 : decode b_Md_shortest 163 = .ok (.lconst 0, 1) := by decide +kernel
theorem d_Md_shortest_164 : decode b_Md_shortest 164 = .ok (.lcmp, 1) := by decide +kernel
theorem d_Md_shortest_165 : decode b_Md_shortest 165 = .ok (.ifCond .lt 20, 3) := by decide +kernel
theorem d_Md_shortest_168 : decode b_Md_shortest 168 = .ok (.lload 4, 2) := by decide +kernel
theorem d_Md_shortest_170 : decode b_Md_shortest 170 = .ok (.aload_n 0, 1) := by decide +kernel
theorem d_Md_shortest_171 : decode b_Md_shortest 171 = .ok (.getfield 82, 3) := by decide +kernel
theorem d_Md_shortest_174 : decode b_Md_shortest 174 = .ok (.aload_n 0, 1) := by decide +kernel
theorem d_Md_shortest_175 : decode b_Md_shortest 175 = .ok (.getfield 13, 3) := by decide +kernel
theorem d_Md_shortest_178 : decode b_Md_shortest 178 = .ok (.iload_n 3, 1) := by decide +kernel
theorem d_Md_shortest_179 : decode b_Md_shortest 179 = .ok (.iaload, 1) := by decide +kernel
theorem d_Md_shortest_180 : decode b_Md_shortest 180 = .ok (.laload, 1) := by decide +kernel
theorem d_Md_shortest_181 : decode b_Md_shortest 181 = .ok (.lcmp, 1) := by decide +kernel
theorem d_Md_shortest_182 : decode b_Md_shortest 182 = .ok (.ifCond .ge 18, 3) := by decide +kernel
theorem d_Md_shortest_185 : decode b_Md_shortest 185 = .ok (.aload_n 0, 1) := by decide +kernel
theorem d_Md_shortest_186 : decode b_Md_shortest 186 = .ok (.getfield 82, 3) := by decide +kernel
theorem d_Md_shortest_189 : decode b_Md_shortest 189 = .ok (.aload_n 0, 1) := by decide +kernel
theorem d_Md_shortest_190 : decode b_Md_shortest 190 = .ok (.getfield 13, 3) := by decide +kernel
theorem d_Md_shortest_193 : decode b_Md_shortest 193 = .ok (.iload_n 3, 1) := by decide +kernel
theorem d_Md_shortest_194 : decode b_Md_shortest 194 = .ok (.iaload, 1) := by decide +kernel
theorem d_Md_shortest_195 : decode b_Md_shortest 195 = .ok (.lload 4, 2) := by decide +kernel
theorem d_Md_shortest_197 : decode b_Md_shortest 197 = .ok (.lastore, 1) := by decide +kernel
theorem d_Md_shortest_198 : decode b_Md_shortest 198 = .ok (.iconst 1, 1) := by decide +kernel
theorem d_Md_shortest_199 : decode b_Md_shortest 199 = .ok (.istore_n 2, 1) := by decide +kernel
theorem d_Md_shortest_200 : decode b_Md_shortest 200 = .ok (.iinc 3 1, 3) := by decide +kernel
theorem d_Md_shortest_203 : decode b_Md_shortest 203 = .ok (.goto (-155), 3) := by decide +kernel
theorem d_Md_shortest_206 : decode b_Md_shortest 206 = .ok (.goto (-166), 3) := by decide +kernel
theorem d_Md_shortest_209 : decode b_Md_shortest 209 = .ok (.aload_n 0, 1) := by decide +kernel
theorem d_Md_shortest_210 : decode b_Md_shortest 210 = .ok (.getfield 82, 3) := by decide +kernel
theorem d_Md_shortest_213 : decode b_Md_shortest 213 = .ok (.iload_n 1, 1) := by decide +kernel
theorem d_Md_shortest_214 : decode b_Md_shortest 214 = .ok (.laload, 1) := by decide +kernel
theorem d_Md_shortest_215 : decode b_Md_shortest 215 = .ok (.l2i, 1) := by decide +kernel
theorem d_Md_shortest_216 : decode b_Md_shortest 216 = .ok (.ireturn, 1) := by decide +kernel
theorem fl_Md_82 : Cond.fieldLink R_Md 82 "RuleTreesModel" "least" "[J" ∈ TB := tb_of 755 (by decide +kernel) (by decide +kernel)
theorem kc_Md_222 : Cond.constantLong R_Md 222 (-1) ∈ TB := tb_of 1010 (by decide +kernel) (by decide +kernel)
abbrev rm_Md_shortest : Room := { frames := 1, cells := 0, slots := 0, locals := 21 }
def f_Md_shortest_17 (N : Nat) (kb : (Nat → Int64) → Int32 → Option ((Int32) × (Nat → Nat → Int32) × (Nat → Int64))) (kx38 : (Nat → Int64) → Option ((Int32) × (Nat → Nat → Int32) × (Nat → Int64))) (s_self : Nat → Nat → Int32) (s_least : Nat → Int64) (v1 v2 : Int32) : Option ((Int32) × (Nat → Nat → Int32) × (Nat → Int64)) :=
  if 6 ≤ v2 then
    kx38 s_least
  else
    ck v2 6 <| nm (vp_updL s_least (Int32.toNatClampNeg v2) (-1)) fun s_least_3 =>
    nm (v2 + 1) fun v2_4 =>
    kb s_least_3 v2_4
set_option maxHeartbeats 4000000 in
set_option maxRecDepth 100000 in
theorem t_Md_shortest_17 {p : Program} {l : Launch} {e : Env} {s : State} {m : MethodId} {args : Array Value} {below : List Frame} {meth : Method} {c : Code} {A : Nat → Prop} {D : va_G} {K : Nat → ClassId} (a_self a_least : Nat → Nat) (X : gx p s m args c b_Md_shortest 10 R_Md w_Md_shortest D classes (tyK K) A) (hr : meth.sig.returnType = some .int) (hlk : meth.locks = false) (N : Nat) (r : Int32) (f_self : Nat → Nat → Int32) (f_least : Nat → Int64) (s_self : Nat → Nat → Int32) (s_least : Nat → Int64) (v1 v2 : Int32) (kb : (Nat → Int64) → Int32 → Option ((Int32) × (Nat → Nat → Int32) × (Nat → Int64))) (hkb : ∀ (s_least : Nat → Int64) (v2 : Int32), kb s_least v2 = some (r, f_self, f_least) → Gd p l e rm_Md_shortest s m args below meth c 0 0 (MQ below (sq D classes (tyK K) (some (.int r)) [wd_Md K a_self (a_least 0) f_self, wd_La K a_least f_least] A) args s 0 0 A) D classes A 10 17 [wd_Md K a_self (a_least 0) s_self, wd_La K a_least s_least] [(0, .ref (a_self 0)), (1, .int v1), (2, .int v2)] []) (kx38 : (Nat → Int64) → Option ((Int32) × (Nat → Nat → Int32) × (Nat → Int64))) (hkx38 : ∀ (s_least : Nat → Int64), kx38 s_least = some (r, f_self, f_least) → Gd p l e rm_Md_shortest s m args below meth c 0 0 (MQ below (sq D classes (tyK K) (some (.int r)) [wd_Md K a_self (a_least 0) f_self, wd_La K a_least f_least] A) args s 0 0 A) D classes A 10 38 [wd_Md K a_self (a_least 0) s_self, wd_La K a_least s_least] [(0, .ref (a_self 0)), (1, .int v1)] []) (h : f_Md_shortest_17 N kb kx38 s_self s_least v1 v2 = some (r, f_self, f_least)) : Gd p l e rm_Md_shortest s m args below meth c 0 0 (MQ below (sq D classes (tyK K) (some (.int r)) [wd_Md K a_self (a_least 0) f_self, wd_La K a_least f_least] A) args s 0 0 A) D classes A 10 17 [wd_Md K a_self (a_least 0) s_self, wd_La K a_least s_least] [(0, .ref (a_self 0)), (1, .int v1), (2, .int v2)] [] := by
  unfold f_Md_shortest_17 at h
  refine gd_iload_n X d_Md_shortest_17 2 rfl ?_
  refine gd_bipush X (v := 6) d_Md_shortest_18 (by decide) ?_
  refine gd_icmp_ge X (tgt := 38) d_Md_shortest_20 (by decide) (fun c_1 => ?_) (fun c_1 => ?_)
  · replace h := it_p c_1 h
    refine gd_loc (lv' := [(0, .ref (a_self 0)), (1, .int v1)]) [0, 1] rfl ?_
    exact hkx38 s_least h
  · replace h := it_n c_1 h
    refine gd_aload_n X d_Md_shortest_23 0 rfl ?_
    refine gd_get X (ci := 7) (C := R_Md) (T := F_Md) (N := 36) (v := .ref (a_least 0)) 0 0 rfl rfl rfl (in_Md _) 35 (by decide) (List.mem_cons_of_mem _ fl_Md_82) rfl rfl d_Md_shortest_24 ?_
    refine gd_iload_n X d_Md_shortest_27 2 rfl ?_
    refine gd_ldc2 X (v := (-1)) (List.mem_cons_of_mem _ kc_Md_222) d_Md_shortest_28 ?_
    obtain ⟨hi_2, h⟩ := ck_e h
    obtain ⟨s_least_3, es_least_3, h⟩ := nm_e' h
    refine gd_last X (w' := [wd_Md K a_self (a_least 0) s_self, wd_La K a_least s_least_3]) 1 0 2 rfl rfl rfl hi_2 d_Md_shortest_31 (by rw [es_least_3]; rfl) ?_
    obtain ⟨v2_4, ev2_4, h⟩ := nm_e' h
    refine gd_iinc X (v := v2_4) (lv' := [(2, .int v2_4), (0, .ref (a_self 0)), (1, .int v1)]) d_Md_shortest_32 (k := 2) rfl (by rw [ev2_4]; rfl) (by decide) rfl ?_
    refine gd_goto X (tgt := 17) d_Md_shortest_35 (by decide) ?_
    refine gd_loc (lv' := [(0, .ref (a_self 0)), (1, .int v1), (2, .int v2_4)]) [1, 2, 0] rfl ?_
    exact hkb s_least_3 v2_4 h
def f_Md_shortest_117 (N : Nat) (kb : Int64 → Int32 → Option ((Int32) × (Nat → Nat → Int32) × (Nat → Int64))) (kx145 : Int64 → Option ((Int32) × (Nat → Nat → Int32) × (Nat → Int64))) (s_self : Nat → Nat → Int32) (s_least : Nat → Int64) (v1 v2 v3 : Int32) (v4 : Int64) (v6 : Int32) (k0 : Int64) : Option ((Int32) × (Nat → Nat → Int32) × (Nat → Int64)) :=
  if 0 ≤ (lg_cmp k0 0) then
    nm (v4 + k0) fun v4_2 =>
    nm (v6 + 1) fun v6_3 =>
    kb v4_2 v6_3
  else
    nm (v6 + 1) fun v6_4 =>
    kb (-1) v6_4
set_option maxHeartbeats 4000000 in
set_option maxRecDepth 100000 in
theorem t_Md_shortest_117 {p : Program} {l : Launch} {e : Env} {s : State} {m : MethodId} {args : Array Value} {below : List Frame} {meth : Method} {c : Code} {A : Nat → Prop} {D : va_G} {K : Nat → ClassId} (a_self a_least : Nat → Nat) (X : gx p s m args c b_Md_shortest 10 R_Md w_Md_shortest D classes (tyK K) A) (hr : meth.sig.returnType = some .int) (hlk : meth.locks = false) (N : Nat) (r : Int32) (f_self : Nat → Nat → Int32) (f_least : Nat → Int64) (s_self : Nat → Nat → Int32) (s_least : Nat → Int64) (v1 v2 v3 : Int32) (v4 : Int64) (v6 : Int32) (k0 : Int64) (kb : Int64 → Int32 → Option ((Int32) × (Nat → Nat → Int32) × (Nat → Int64))) (hkb : ∀ (v4 : Int64) (v6 : Int32), kb v4 v6 = some (r, f_self, f_least) → Gd p l e rm_Md_shortest s m args below meth c 0 0 (MQ below (sq D classes (tyK K) (some (.int r)) [wd_Md K a_self (a_least 0) f_self, wd_La K a_least f_least] A) args s 0 0 A) D classes A 10 62 [wd_Md K a_self (a_least 0) s_self, wd_La K a_least s_least] [(0, .ref (a_self 0)), (1, .int v1), (2, .int v2), (3, .int v3), (4, .long v4), (6, .int v6)] []) (kx145 : Int64 → Option ((Int32) × (Nat → Nat → Int32) × (Nat → Int64))) (hkx145 : ∀ (v4 : Int64), kx145 v4 = some (r, f_self, f_least) → Gd p l e rm_Md_shortest s m args below meth c 0 0 (MQ below (sq D classes (tyK K) (some (.int r)) [wd_Md K a_self (a_least 0) f_self, wd_La K a_least f_least] A) args s 0 0 A) D classes A 10 145 [wd_Md K a_self (a_least 0) s_self, wd_La K a_least s_least] [(0, .ref (a_self 0)), (1, .int v1), (2, .int v2), (3, .int v3), (4, .long v4)] []) (h : f_Md_shortest_117 N kb kx145 s_self s_least v1 v2 v3 v4 v6 k0 = some (r, f_self, f_least)) : Gd p l e rm_Md_shortest s m args below meth c 0 0 (MQ below (sq D classes (tyK K) (some (.int r)) [wd_Md K a_self (a_least 0) f_self, wd_La K a_least f_least] A) args s 0 0 A) D classes A 10 117 [wd_Md K a_self (a_least 0) s_self, wd_La K a_least s_least] [(0, .ref (a_self 0)), (1, .int v1), (2, .int v2), (3, .int v3), (4, .long v4), (6, .int v6)] [.long k0] := by
  unfold f_Md_shortest_117 at h
  refine gd_lstore X (lv' := [(8, .long k0), (0, .ref (a_self 0)), (1, .int v1), (2, .int v2), (3, .int v3), (4, .long v4), (6, .int v6)]) d_Md_shortest_117 (by decide) rfl ?_
  refine gd_lload X d_Md_shortest_119 0 rfl ?_
  refine gd_lconst X (v := 0) d_Md_shortest_121 (by decide) ?_
  refine gd_lcmp X d_Md_shortest_122 ?_
  refine gd_if_ge X (tgt := 132) d_Md_shortest_123 (by decide) (fun c_1 => ?_) (fun c_1 => ?_)
  · replace h := it_p c_1 h
    refine gd_lload X d_Md_shortest_132 5 rfl ?_
    refine gd_lload X d_Md_shortest_134 0 rfl ?_
    refine gd_ladd X d_Md_shortest_136 ?_
    obtain ⟨v4_2, ev4_2, h⟩ := nm_e' h
    refine gd_topl ev4_2 ?_
    refine gd_lstore X (lv' := [(4, .long v4_2), (8, .long k0), (0, .ref (a_self 0)), (1, .int v1), (2, .int v2), (3, .int v3), (6, .int v6)]) d_Md_shortest_137 (by decide) rfl ?_
    obtain ⟨v6_3, ev6_3, h⟩ := nm_e' h
    refine gd_iinc X (v := v6_3) (lv' := [(6, .int v6_3), (4, .long v4_2), (8, .long k0), (0, .ref (a_self 0)), (1, .int v1), (2, .int v2), (3, .int v3)]) d_Md_shortest_139 (k := 6) rfl (by rw [ev6_3]; rfl) (by decide) rfl ?_
    refine gd_goto X (tgt := 62) d_Md_shortest_142 (by decide) ?_
    refine gd_loc (lv' := [(0, .ref (a_self 0)), (1, .int v1), (2, .int v2), (3, .int v3), (4, .long v4_2), (6, .int v6_3)]) [3, 4, 5, 6, 1, 0] rfl ?_
    exact hkb v4_2 v6_3 h
  · replace h := it_n c_1 h
    refine gd_ldc2 X (v := (-1)) (List.mem_cons_of_mem _ kc_Md_222) d_Md_shortest_126 ?_
    refine gd_goto X (tgt := 137) d_Md_shortest_129 (by decide) ?_
    refine gd_lstore X (lv' := [(4, .long (-1)), (8, .long k0), (0, .ref (a_self 0)), (1, .int v1), (2, .int v2), (3, .int v3), (6, .int v6)]) d_Md_shortest_137 (by decide) rfl ?_
    obtain ⟨v6_4, ev6_4, h⟩ := nm_e' h
    refine gd_iinc X (v := v6_4) (lv' := [(6, .int v6_4), (4, .long (-1)), (8, .long k0), (0, .ref (a_self 0)), (1, .int v1), (2, .int v2), (3, .int v3)]) d_Md_shortest_139 (k := 6) rfl (by rw [ev6_4]; rfl) (by decide) rfl ?_
    refine gd_goto X (tgt := 62) d_Md_shortest_142 (by decide) ?_
    refine gd_loc (lv' := [(0, .ref (a_self 0)), (1, .int v1), (2, .int v2), (3, .int v3), (4, .long (-1)), (6, .int v6_4)]) [3, 4, 5, 6, 1, 0] rfl ?_
    exact hkb (-1) v6_4 h
def f_Md_shortest_62 (N : Nat) (kb : Int64 → Int32 → Option ((Int32) × (Nat → Nat → Int32) × (Nat → Int64))) (kx145 : Int64 → Option ((Int32) × (Nat → Nat → Int32) × (Nat → Int64))) (s_self : Nat → Nat → Int32) (s_least : Nat → Int64) (v1 v2 v3 : Int32) (v4 : Int64) (v6 : Int32) : Option ((Int32) × (Nat → Nat → Int32) × (Nat → Int64)) :=
  ck v3 31 <|
  if (s_self 3 (Int32.toNatClampNeg v3)) ≤ v6 then
    kx145 v4
  else
    if (lg_cmp v4 0) < 0 then
      kx145 v4
    else
      ck ((8 * v3) + v6) 248 <|
      nm (s_self 4 (Int32.toNatClampNeg ((8 * v3) + v6))) fun v7_5 =>
      if v7_5 < 0 then
        ck ((-1) - v7_5) 20 <|
        ck (s_self 1 (Int32.toNatClampNeg ((-1) - v7_5))) 6 <|
        f_Md_shortest_117 N kb kx145 s_self s_least v1 v2 v3 v4 v6 (s_least (Int32.toNatClampNeg (s_self 1 (Int32.toNatClampNeg ((-1) - v7_5)))))
      else
        f_Md_shortest_117 N kb kx145 s_self s_least v1 v2 v3 v4 v6 1
set_option maxHeartbeats 4000000 in
set_option maxRecDepth 100000 in
theorem t_Md_shortest_62 {p : Program} {l : Launch} {e : Env} {s : State} {m : MethodId} {args : Array Value} {below : List Frame} {meth : Method} {c : Code} {A : Nat → Prop} {D : va_G} {K : Nat → ClassId} (a_self a_least : Nat → Nat) (X : gx p s m args c b_Md_shortest 10 R_Md w_Md_shortest D classes (tyK K) A) (hr : meth.sig.returnType = some .int) (hlk : meth.locks = false) (N : Nat) (r : Int32) (f_self : Nat → Nat → Int32) (f_least : Nat → Int64) (s_self : Nat → Nat → Int32) (s_least : Nat → Int64) (v1 v2 v3 : Int32) (v4 : Int64) (v6 : Int32) (kb : Int64 → Int32 → Option ((Int32) × (Nat → Nat → Int32) × (Nat → Int64))) (hkb : ∀ (v4 : Int64) (v6 : Int32), kb v4 v6 = some (r, f_self, f_least) → Gd p l e rm_Md_shortest s m args below meth c 0 0 (MQ below (sq D classes (tyK K) (some (.int r)) [wd_Md K a_self (a_least 0) f_self, wd_La K a_least f_least] A) args s 0 0 A) D classes A 10 62 [wd_Md K a_self (a_least 0) s_self, wd_La K a_least s_least] [(0, .ref (a_self 0)), (1, .int v1), (2, .int v2), (3, .int v3), (4, .long v4), (6, .int v6)] []) (kx145 : Int64 → Option ((Int32) × (Nat → Nat → Int32) × (Nat → Int64))) (hkx145 : ∀ (v4 : Int64), kx145 v4 = some (r, f_self, f_least) → Gd p l e rm_Md_shortest s m args below meth c 0 0 (MQ below (sq D classes (tyK K) (some (.int r)) [wd_Md K a_self (a_least 0) f_self, wd_La K a_least f_least] A) args s 0 0 A) D classes A 10 145 [wd_Md K a_self (a_least 0) s_self, wd_La K a_least s_least] [(0, .ref (a_self 0)), (1, .int v1), (2, .int v2), (3, .int v3), (4, .long v4)] []) (h : f_Md_shortest_62 N kb kx145 s_self s_least v1 v2 v3 v4 v6 = some (r, f_self, f_least)) : Gd p l e rm_Md_shortest s m args below meth c 0 0 (MQ below (sq D classes (tyK K) (some (.int r)) [wd_Md K a_self (a_least 0) f_self, wd_La K a_least f_least] A) args s 0 0 A) D classes A 10 62 [wd_Md K a_self (a_least 0) s_self, wd_La K a_least s_least] [(0, .ref (a_self 0)), (1, .int v1), (2, .int v2), (3, .int v3), (4, .long v4), (6, .int v6)] [] := by
  unfold f_Md_shortest_62 at h
  refine gd_iload X d_Md_shortest_62 5 rfl ?_
  refine gd_aload_n X d_Md_shortest_64 0 rfl ?_
  refine gd_get X (ci := 7) (C := R_Md) (T := F_Md) (N := 36) (v := .ref (a_self 3)) 0 0 rfl rfl rfl (in_Md _) 7 (by decide) (List.mem_cons_of_mem _ fl_Md_16) rfl rfl d_Md_shortest_65 ?_
  refine gd_iload_n X d_Md_shortest_68 3 rfl ?_
  obtain ⟨hi_1, h⟩ := ck_e h
  refine gd_iald X 0 3 0 rfl rfl rfl hi_1 d_Md_shortest_69 ?_
  refine gd_icmp_ge X (tgt := 145) d_Md_shortest_70 (by decide) (fun c_2 => ?_) (fun c_2 => ?_)
  · replace h := it_p c_2 h
    refine gd_loc (lv' := [(0, .ref (a_self 0)), (1, .int v1), (2, .int v2), (3, .int v3), (4, .long v4)]) [0, 1, 2, 3, 4] rfl ?_
    exact hkx145 v4 h
  · replace h := it_n c_2 h
    refine gd_lload X d_Md_shortest_73 4 rfl ?_
    refine gd_lconst X (v := 0) d_Md_shortest_75 (by decide) ?_
    refine gd_lcmp X d_Md_shortest_76 ?_
    refine gd_if_lt X (tgt := 145) d_Md_shortest_77 (by decide) (fun c_3 => ?_) (fun c_3 => ?_)
    · replace h := it_p c_3 h
      refine gd_loc (lv' := [(0, .ref (a_self 0)), (1, .int v1), (2, .int v2), (3, .int v3), (4, .long v4)]) [0, 1, 2, 3, 4] rfl ?_
      exact hkx145 v4 h
    · replace h := it_n c_3 h
      refine gd_aload_n X d_Md_shortest_80 0 rfl ?_
      refine gd_get X (ci := 7) (C := R_Md) (T := F_Md) (N := 36) (v := .ref (a_self 4)) 0 0 rfl rfl rfl (in_Md _) 8 (by decide) (List.mem_cons_of_mem _ fl_Md_19) rfl rfl d_Md_shortest_81 ?_
      refine gd_bipush X (v := 8) d_Md_shortest_84 (by decide) ?_
      refine gd_iload_n X d_Md_shortest_86 3 rfl ?_
      refine gd_imul X d_Md_shortest_87 ?_
      refine gd_iload X d_Md_shortest_88 5 rfl ?_
      refine gd_iadd X d_Md_shortest_90 ?_
      obtain ⟨hi_4, h⟩ := ck_e h
      refine gd_iald X 0 4 0 rfl rfl rfl hi_4 d_Md_shortest_91 ?_
      obtain ⟨v7_5, ev7_5, h⟩ := nm_e' h
      refine gd_topi ev7_5 ?_
      refine gd_istore X (lv' := [(7, .int v7_5), (0, .ref (a_self 0)), (1, .int v1), (2, .int v2), (3, .int v3), (4, .long v4), (6, .int v6)]) d_Md_shortest_92 (by decide) rfl ?_
      refine gd_iload X d_Md_shortest_94 0 rfl ?_
      refine gd_if_lt X (tgt := 103) d_Md_shortest_96 (by decide) (fun c_6 => ?_) (fun c_6 => ?_)
      · replace h := it_p c_6 h
        refine gd_aload_n X d_Md_shortest_103 1 rfl ?_
        refine gd_get X (ci := 7) (C := R_Md) (T := F_Md) (N := 36) (v := .ref (a_least 0)) 0 0 rfl rfl rfl (in_Md _) 35 (by decide) (List.mem_cons_of_mem _ fl_Md_82) rfl rfl d_Md_shortest_104 ?_
        refine gd_aload_n X d_Md_shortest_107 1 rfl ?_
        refine gd_get X (ci := 7) (C := R_Md) (T := F_Md) (N := 36) (v := .ref (a_self 1)) 0 0 rfl rfl rfl (in_Md _) 3 (by decide) (List.mem_cons_of_mem _ fl_Md_7) rfl rfl d_Md_shortest_108 ?_
        refine gd_iconst X (v := (-1)) d_Md_shortest_111 (by decide) ?_
        refine gd_iload X d_Md_shortest_112 0 rfl ?_
        refine gd_isub X d_Md_shortest_114 ?_
        obtain ⟨hi_7, h⟩ := ck_e h
        refine gd_iald X 0 1 0 rfl rfl rfl hi_7 d_Md_shortest_115 ?_
        obtain ⟨hi_8, h⟩ := ck_e h
        refine gd_lald X 1 0 2 rfl rfl rfl hi_8 d_Md_shortest_116 ?_
        refine gd_loc (lv' := [(0, .ref (a_self 0)), (1, .int v1), (2, .int v2), (3, .int v3), (4, .long v4), (6, .int v6)]) [1, 2, 3, 4, 5, 6] rfl ?_
        exact t_Md_shortest_117 a_self a_least X hr hlk N r f_self f_least s_self s_least v1 v2 v3 v4 v6 (s_least (Int32.toNatClampNeg (s_self 1 (Int32.toNatClampNeg ((-1) - v7_5))))) kb hkb kx145 hkx145 h
      · replace h := it_n c_6 h
        refine gd_lconst X (v := 1) d_Md_shortest_99 (by decide) ?_
        refine gd_goto X (tgt := 117) d_Md_shortest_100 (by decide) ?_
        refine gd_loc (lv' := [(0, .ref (a_self 0)), (1, .int v1), (2, .int v2), (3, .int v3), (4, .long v4), (6, .int v6)]) [1, 2, 3, 4, 5, 6] rfl ?_
        exact t_Md_shortest_117 a_self a_least X hr hlk N r f_self f_least s_self s_least v1 v2 v3 v4 v6 1 kb hkb kx145 hkx145 h
def f_Md_shortest_185 (N : Nat) (kb : (Nat → Int64) → Int32 → Int32 → Option ((Int32) × (Nat → Nat → Int32) × (Nat → Int64))) (kx206 : (Nat → Int64) → Int32 → Option ((Int32) × (Nat → Nat → Int32) × (Nat → Int64))) (s_self : Nat → Nat → Int32) (s_least : Nat → Int64) (v1 v3 : Int32) (v4 : Int64) : Option ((Int32) × (Nat → Nat → Int32) × (Nat → Int64)) :=
  ck v3 31 <|
  ck (s_self 2 (Int32.toNatClampNeg v3)) 6 <| nm (vp_updL s_least (Int32.toNatClampNeg (s_self 2 (Int32.toNatClampNeg v3))) v4) fun s_least_3 =>
  nm (v3 + 1) fun v3_4 =>
  kb s_least_3 1 v3_4
set_option maxHeartbeats 4000000 in
set_option maxRecDepth 100000 in
theorem t_Md_shortest_185 {p : Program} {l : Launch} {e : Env} {s : State} {m : MethodId} {args : Array Value} {below : List Frame} {meth : Method} {c : Code} {A : Nat → Prop} {D : va_G} {K : Nat → ClassId} (a_self a_least : Nat → Nat) (X : gx p s m args c b_Md_shortest 10 R_Md w_Md_shortest D classes (tyK K) A) (hr : meth.sig.returnType = some .int) (hlk : meth.locks = false) (N : Nat) (r : Int32) (f_self : Nat → Nat → Int32) (f_least : Nat → Int64) (s_self : Nat → Nat → Int32) (s_least : Nat → Int64) (v1 v3 : Int32) (v4 : Int64) (kb : (Nat → Int64) → Int32 → Int32 → Option ((Int32) × (Nat → Nat → Int32) × (Nat → Int64))) (hkb : ∀ (s_least : Nat → Int64) (v2 v3 : Int32), kb s_least v2 v3 = some (r, f_self, f_least) → Gd p l e rm_Md_shortest s m args below meth c 0 0 (MQ below (sq D classes (tyK K) (some (.int r)) [wd_Md K a_self (a_least 0) f_self, wd_La K a_least f_least] A) args s 0 0 A) D classes A 10 48 [wd_Md K a_self (a_least 0) s_self, wd_La K a_least s_least] [(0, .ref (a_self 0)), (1, .int v1), (2, .int v2), (3, .int v3)] []) (kx206 : (Nat → Int64) → Int32 → Option ((Int32) × (Nat → Nat → Int32) × (Nat → Int64))) (hkx206 : ∀ (s_least : Nat → Int64) (v2 : Int32), kx206 s_least v2 = some (r, f_self, f_least) → Gd p l e rm_Md_shortest s m args below meth c 0 0 (MQ below (sq D classes (tyK K) (some (.int r)) [wd_Md K a_self (a_least 0) f_self, wd_La K a_least f_least] A) args s 0 0 A) D classes A 10 206 [wd_Md K a_self (a_least 0) s_self, wd_La K a_least s_least] [(0, .ref (a_self 0)), (1, .int v1), (2, .int v2)] []) (h : f_Md_shortest_185 N kb kx206 s_self s_least v1 v3 v4 = some (r, f_self, f_least)) : Gd p l e rm_Md_shortest s m args below meth c 0 0 (MQ below (sq D classes (tyK K) (some (.int r)) [wd_Md K a_self (a_least 0) f_self, wd_La K a_least f_least] A) args s 0 0 A) D classes A 10 185 [wd_Md K a_self (a_least 0) s_self, wd_La K a_least s_least] [(0, .ref (a_self 0)), (1, .int v1), (3, .int v3), (4, .long v4)] [] := by
  unfold f_Md_shortest_185 at h
  refine gd_aload_n X d_Md_shortest_185 0 rfl ?_
  refine gd_get X (ci := 7) (C := R_Md) (T := F_Md) (N := 36) (v := .ref (a_least 0)) 0 0 rfl rfl rfl (in_Md _) 35 (by decide) (List.mem_cons_of_mem _ fl_Md_82) rfl rfl d_Md_shortest_186 ?_
  refine gd_aload_n X d_Md_shortest_189 0 rfl ?_
  refine gd_get X (ci := 7) (C := R_Md) (T := F_Md) (N := 36) (v := .ref (a_self 2)) 0 0 rfl rfl rfl (in_Md _) 6 (by decide) (List.mem_cons_of_mem _ fl_Md_13) rfl rfl d_Md_shortest_190 ?_
  refine gd_iload_n X d_Md_shortest_193 2 rfl ?_
  obtain ⟨hi_1, h⟩ := ck_e h
  refine gd_iald X 0 2 0 rfl rfl rfl hi_1 d_Md_shortest_194 ?_
  refine gd_lload X d_Md_shortest_195 3 rfl ?_
  obtain ⟨hi_2, h⟩ := ck_e h
  obtain ⟨s_least_3, es_least_3, h⟩ := nm_e' h
  refine gd_last X (w' := [wd_Md K a_self (a_least 0) s_self, wd_La K a_least s_least_3]) 1 0 2 rfl rfl rfl hi_2 d_Md_shortest_197 (by rw [es_least_3]; rfl) ?_
  refine gd_iconst X (v := 1) d_Md_shortest_198 (by decide) ?_
  refine gd_istore_n X (lv' := [(2, .int 1), (0, .ref (a_self 0)), (1, .int v1), (3, .int v3), (4, .long v4)]) d_Md_shortest_199 rfl (by decide) rfl ?_
  obtain ⟨v3_4, ev3_4, h⟩ := nm_e' h
  refine gd_iinc X (v := v3_4) (lv' := [(3, .int v3_4), (2, .int 1), (0, .ref (a_self 0)), (1, .int v1), (4, .long v4)]) d_Md_shortest_200 (k := 3) rfl (by rw [ev3_4]; rfl) (by decide) rfl ?_
  refine gd_goto X (tgt := 48) d_Md_shortest_203 (by decide) ?_
  refine gd_loc (lv' := [(0, .ref (a_self 0)), (1, .int v1), (2, .int 1), (3, .int v3_4)]) [2, 3, 1, 0] rfl ?_
  exact hkb s_least_3 1 v3_4 h
def f_Md_shortest_145 (N : Nat) (kb : (Nat → Int64) → Int32 → Int32 → Option ((Int32) × (Nat → Nat → Int32) × (Nat → Int64))) (kx206 : (Nat → Int64) → Int32 → Option ((Int32) × (Nat → Nat → Int32) × (Nat → Int64))) (s_self : Nat → Nat → Int32) (s_least : Nat → Int64) (v1 v2 v3 : Int32) (v4 : Int64) : Option ((Int32) × (Nat → Nat → Int32) × (Nat → Int64)) :=
  if (lg_cmp v4 0) < 0 then
    nm (v3 + 1) fun v3_2 =>
    kb s_least v2 v3_2
  else
    ck v3 31 <|
    ck (s_self 2 (Int32.toNatClampNeg v3)) 6 <|
    if (lg_cmp (s_least (Int32.toNatClampNeg (s_self 2 (Int32.toNatClampNeg v3)))) 0) < 0 then
      f_Md_shortest_185 N kb kx206 s_self s_least v1 v3 v4
    else
      ck v3 31 <|
      ck (s_self 2 (Int32.toNatClampNeg v3)) 6 <|
      if 0 ≤ (lg_cmp v4 (s_least (Int32.toNatClampNeg (s_self 2 (Int32.toNatClampNeg v3))))) then
        nm (v3 + 1) fun v3_9 =>
        kb s_least v2 v3_9
      else
        f_Md_shortest_185 N kb kx206 s_self s_least v1 v3 v4
set_option maxHeartbeats 4000000 in
set_option maxRecDepth 100000 in
theorem t_Md_shortest_145 {p : Program} {l : Launch} {e : Env} {s : State} {m : MethodId} {args : Array Value} {below : List Frame} {meth : Method} {c : Code} {A : Nat → Prop} {D : va_G} {K : Nat → ClassId} (a_self a_least : Nat → Nat) (X : gx p s m args c b_Md_shortest 10 R_Md w_Md_shortest D classes (tyK K) A) (hr : meth.sig.returnType = some .int) (hlk : meth.locks = false) (N : Nat) (r : Int32) (f_self : Nat → Nat → Int32) (f_least : Nat → Int64) (s_self : Nat → Nat → Int32) (s_least : Nat → Int64) (v1 v2 v3 : Int32) (v4 : Int64) (kb : (Nat → Int64) → Int32 → Int32 → Option ((Int32) × (Nat → Nat → Int32) × (Nat → Int64))) (hkb : ∀ (s_least : Nat → Int64) (v2 v3 : Int32), kb s_least v2 v3 = some (r, f_self, f_least) → Gd p l e rm_Md_shortest s m args below meth c 0 0 (MQ below (sq D classes (tyK K) (some (.int r)) [wd_Md K a_self (a_least 0) f_self, wd_La K a_least f_least] A) args s 0 0 A) D classes A 10 48 [wd_Md K a_self (a_least 0) s_self, wd_La K a_least s_least] [(0, .ref (a_self 0)), (1, .int v1), (2, .int v2), (3, .int v3)] []) (kx206 : (Nat → Int64) → Int32 → Option ((Int32) × (Nat → Nat → Int32) × (Nat → Int64))) (hkx206 : ∀ (s_least : Nat → Int64) (v2 : Int32), kx206 s_least v2 = some (r, f_self, f_least) → Gd p l e rm_Md_shortest s m args below meth c 0 0 (MQ below (sq D classes (tyK K) (some (.int r)) [wd_Md K a_self (a_least 0) f_self, wd_La K a_least f_least] A) args s 0 0 A) D classes A 10 206 [wd_Md K a_self (a_least 0) s_self, wd_La K a_least s_least] [(0, .ref (a_self 0)), (1, .int v1), (2, .int v2)] []) (h : f_Md_shortest_145 N kb kx206 s_self s_least v1 v2 v3 v4 = some (r, f_self, f_least)) : Gd p l e rm_Md_shortest s m args below meth c 0 0 (MQ below (sq D classes (tyK K) (some (.int r)) [wd_Md K a_self (a_least 0) f_self, wd_La K a_least f_least] A) args s 0 0 A) D classes A 10 145 [wd_Md K a_self (a_least 0) s_self, wd_La K a_least s_least] [(0, .ref (a_self 0)), (1, .int v1), (2, .int v2), (3, .int v3), (4, .long v4)] [] := by
  unfold f_Md_shortest_145 at h
  refine gd_lload X d_Md_shortest_145 4 rfl ?_
  refine gd_lconst X (v := 0) d_Md_shortest_147 (by decide) ?_
  refine gd_lcmp X d_Md_shortest_148 ?_
  refine gd_if_lt X (tgt := 200) d_Md_shortest_149 (by decide) (fun c_1 => ?_) (fun c_1 => ?_)
  · replace h := it_p c_1 h
    obtain ⟨v3_2, ev3_2, h⟩ := nm_e' h
    refine gd_iinc X (v := v3_2) (lv' := [(3, .int v3_2), (0, .ref (a_self 0)), (1, .int v1), (2, .int v2), (4, .long v4)]) d_Md_shortest_200 (k := 3) rfl (by rw [ev3_2]; rfl) (by decide) rfl ?_
    refine gd_goto X (tgt := 48) d_Md_shortest_203 (by decide) ?_
    refine gd_loc (lv' := [(0, .ref (a_self 0)), (1, .int v1), (2, .int v2), (3, .int v3_2)]) [1, 2, 3, 0] rfl ?_
    exact hkb s_least v2 v3_2 h
  · replace h := it_n c_1 h
    refine gd_aload_n X d_Md_shortest_152 0 rfl ?_
    refine gd_get X (ci := 7) (C := R_Md) (T := F_Md) (N := 36) (v := .ref (a_least 0)) 0 0 rfl rfl rfl (in_Md _) 35 (by decide) (List.mem_cons_of_mem _ fl_Md_82) rfl rfl d_Md_shortest_153 ?_
    refine gd_aload_n X d_Md_shortest_156 0 rfl ?_
    refine gd_get X (ci := 7) (C := R_Md) (T := F_Md) (N := 36) (v := .ref (a_self 2)) 0 0 rfl rfl rfl (in_Md _) 6 (by decide) (List.mem_cons_of_mem _ fl_Md_13) rfl rfl d_Md_shortest_157 ?_
    refine gd_iload_n X d_Md_shortest_160 3 rfl ?_
    obtain ⟨hi_3, h⟩ := ck_e h
    refine gd_iald X 0 2 0 rfl rfl rfl hi_3 d_Md_shortest_161 ?_
    obtain ⟨hi_4, h⟩ := ck_e h
    refine gd_lald X 1 0 2 rfl rfl rfl hi_4 d_Md_shortest_162 ?_
    refine gd_lconst X (v := 0) d_Md_shortest_163 (by decide) ?_
    refine gd_lcmp X d_Md_shortest_164 ?_
    refine gd_if_lt X (tgt := 185) d_Md_shortest_165 (by decide) (fun c_5 => ?_) (fun c_5 => ?_)
    · replace h := it_p c_5 h
      refine gd_loc (lv' := [(0, .ref (a_self 0)), (1, .int v1), (3, .int v3), (4, .long v4)]) [0, 1, 3, 4] rfl ?_
      exact t_Md_shortest_185 a_self a_least X hr hlk N r f_self f_least s_self s_least v1 v3 v4 kb hkb kx206 hkx206 h
    · replace h := it_n c_5 h
      refine gd_lload X d_Md_shortest_168 4 rfl ?_
      refine gd_aload_n X d_Md_shortest_170 0 rfl ?_
      refine gd_get X (ci := 7) (C := R_Md) (T := F_Md) (N := 36) (v := .ref (a_least 0)) 0 0 rfl rfl rfl (in_Md _) 35 (by decide) (List.mem_cons_of_mem _ fl_Md_82) rfl rfl d_Md_shortest_171 ?_
      refine gd_aload_n X d_Md_shortest_174 0 rfl ?_
      refine gd_get X (ci := 7) (C := R_Md) (T := F_Md) (N := 36) (v := .ref (a_self 2)) 0 0 rfl rfl rfl (in_Md _) 6 (by decide) (List.mem_cons_of_mem _ fl_Md_13) rfl rfl d_Md_shortest_175 ?_
      refine gd_iload_n X d_Md_shortest_178 3 rfl ?_
      obtain ⟨hi_6, h⟩ := ck_e h
      refine gd_iald X 0 2 0 rfl rfl rfl hi_6 d_Md_shortest_179 ?_
      obtain ⟨hi_7, h⟩ := ck_e h
      refine gd_lald X 1 0 2 rfl rfl rfl hi_7 d_Md_shortest_180 ?_
      refine gd_lcmp X d_Md_shortest_181 ?_
      refine gd_if_ge X (tgt := 200) d_Md_shortest_182 (by decide) (fun c_8 => ?_) (fun c_8 => ?_)
      · replace h := it_p c_8 h
        obtain ⟨v3_9, ev3_9, h⟩ := nm_e' h
        refine gd_iinc X (v := v3_9) (lv' := [(3, .int v3_9), (0, .ref (a_self 0)), (1, .int v1), (2, .int v2), (4, .long v4)]) d_Md_shortest_200 (k := 3) rfl (by rw [ev3_9]; rfl) (by decide) rfl ?_
        refine gd_goto X (tgt := 48) d_Md_shortest_203 (by decide) ?_
        refine gd_loc (lv' := [(0, .ref (a_self 0)), (1, .int v1), (2, .int v2), (3, .int v3_9)]) [1, 2, 3, 0] rfl ?_
        exact hkb s_least v2 v3_9 h
      · replace h := it_n c_8 h
        refine gd_loc (lv' := [(0, .ref (a_self 0)), (1, .int v1), (3, .int v3), (4, .long v4)]) [0, 1, 3, 4] rfl ?_
        exact t_Md_shortest_185 a_self a_least X hr hlk N r f_self f_least s_self s_least v1 v3 v4 kb hkb kx206 hkx206 h
def l_Md_shortest_62 (N : Nat) (s_self : Nat → Nat → Int32) (s_least : Nat → Int64) (v1 v2 v3 : Int32) (kx145 : Int64 → Option ((Int32) × (Nat → Nat → Int32) × (Nat → Int64))) : Nat → Int64 → Int32 → Option ((Int32) × (Nat → Nat → Int32) × (Nat → Int64))
  | 0, _, _ => none
  | n + 1, v4, v6 => f_Md_shortest_62 N (l_Md_shortest_62 N s_self s_least v1 v2 v3 kx145 n) kx145 s_self s_least v1 v2 v3 v4 v6
set_option maxHeartbeats 4000000 in
set_option maxRecDepth 100000 in
theorem tl_Md_shortest_62 {p : Program} {l : Launch} {e : Env} {s : State} {m : MethodId} {args : Array Value} {below : List Frame} {meth : Method} {c : Code} {A : Nat → Prop} {D : va_G} {K : Nat → ClassId} (a_self a_least : Nat → Nat) (X : gx p s m args c b_Md_shortest 10 R_Md w_Md_shortest D classes (tyK K) A) (hr : meth.sig.returnType = some .int) (hlk : meth.locks = false) (N : Nat) (r : Int32) (f_self : Nat → Nat → Int32) (f_least : Nat → Int64) (s_self : Nat → Nat → Int32) (s_least : Nat → Int64) (v1 v2 v3 : Int32) (kx145 : Int64 → Option ((Int32) × (Nat → Nat → Int32) × (Nat → Int64))) (hkx145 : ∀ (v4 : Int64), kx145 v4 = some (r, f_self, f_least) → Gd p l e rm_Md_shortest s m args below meth c 0 0 (MQ below (sq D classes (tyK K) (some (.int r)) [wd_Md K a_self (a_least 0) f_self, wd_La K a_least f_least] A) args s 0 0 A) D classes A 10 145 [wd_Md K a_self (a_least 0) s_self, wd_La K a_least s_least] [(0, .ref (a_self 0)), (1, .int v1), (2, .int v2), (3, .int v3), (4, .long v4)] []) : ∀ (n : Nat) (v4 : Int64) (v6 : Int32), l_Md_shortest_62 N s_self s_least v1 v2 v3 kx145 n v4 v6 = some (r, f_self, f_least) → Gd p l e rm_Md_shortest s m args below meth c 0 0 (MQ below (sq D classes (tyK K) (some (.int r)) [wd_Md K a_self (a_least 0) f_self, wd_La K a_least f_least] A) args s 0 0 A) D classes A 10 62 [wd_Md K a_self (a_least 0) s_self, wd_La K a_least s_least] [(0, .ref (a_self 0)), (1, .int v1), (2, .int v2), (3, .int v3), (4, .long v4), (6, .int v6)] [] := by
  intro n
  induction n with
  | zero => intro v4 v6 h; have h : (none : Option ((Int32) × (Nat → Nat → Int32) × (Nat → Int64))) = some _ := h; cases h
  | succ n ih =>
    intro v4 v6 h
    exact t_Md_shortest_62 a_self a_least X hr hlk N r f_self f_least s_self s_least v1 v2 v3 v4 v6 (l_Md_shortest_62 N s_self s_least v1 v2 v3 kx145 n) ih kx145 hkx145 h
def f_Md_shortest_48 (N : Nat) (kb : (Nat → Int64) → Int32 → Int32 → Option ((Int32) × (Nat → Nat → Int32) × (Nat → Int64))) (kx206 : (Nat → Int64) → Int32 → Option ((Int32) × (Nat → Nat → Int32) × (Nat → Int64))) (s_self : Nat → Nat → Int32) (s_least : Nat → Int64) (v1 v2 v3 : Int32) : Option ((Int32) × (Nat → Nat → Int32) × (Nat → Int64)) :=
  if (s_self 0 4) ≤ v3 then
    kx206 s_least v2
  else
    l_Md_shortest_62 N s_self s_least v1 v2 v3 (fun v4 => f_Md_shortest_145 N kb kx206 s_self s_least v1 v2 v3 v4) N 0 0
set_option maxHeartbeats 4000000 in
set_option maxRecDepth 100000 in
theorem t_Md_shortest_48 {p : Program} {l : Launch} {e : Env} {s : State} {m : MethodId} {args : Array Value} {below : List Frame} {meth : Method} {c : Code} {A : Nat → Prop} {D : va_G} {K : Nat → ClassId} (a_self a_least : Nat → Nat) (X : gx p s m args c b_Md_shortest 10 R_Md w_Md_shortest D classes (tyK K) A) (hr : meth.sig.returnType = some .int) (hlk : meth.locks = false) (N : Nat) (r : Int32) (f_self : Nat → Nat → Int32) (f_least : Nat → Int64) (s_self : Nat → Nat → Int32) (s_least : Nat → Int64) (v1 v2 v3 : Int32) (kb : (Nat → Int64) → Int32 → Int32 → Option ((Int32) × (Nat → Nat → Int32) × (Nat → Int64))) (hkb : ∀ (s_least : Nat → Int64) (v2 v3 : Int32), kb s_least v2 v3 = some (r, f_self, f_least) → Gd p l e rm_Md_shortest s m args below meth c 0 0 (MQ below (sq D classes (tyK K) (some (.int r)) [wd_Md K a_self (a_least 0) f_self, wd_La K a_least f_least] A) args s 0 0 A) D classes A 10 48 [wd_Md K a_self (a_least 0) s_self, wd_La K a_least s_least] [(0, .ref (a_self 0)), (1, .int v1), (2, .int v2), (3, .int v3)] []) (kx206 : (Nat → Int64) → Int32 → Option ((Int32) × (Nat → Nat → Int32) × (Nat → Int64))) (hkx206 : ∀ (s_least : Nat → Int64) (v2 : Int32), kx206 s_least v2 = some (r, f_self, f_least) → Gd p l e rm_Md_shortest s m args below meth c 0 0 (MQ below (sq D classes (tyK K) (some (.int r)) [wd_Md K a_self (a_least 0) f_self, wd_La K a_least f_least] A) args s 0 0 A) D classes A 10 206 [wd_Md K a_self (a_least 0) s_self, wd_La K a_least s_least] [(0, .ref (a_self 0)), (1, .int v1), (2, .int v2)] []) (h : f_Md_shortest_48 N kb kx206 s_self s_least v1 v2 v3 = some (r, f_self, f_least)) : Gd p l e rm_Md_shortest s m args below meth c 0 0 (MQ below (sq D classes (tyK K) (some (.int r)) [wd_Md K a_self (a_least 0) f_self, wd_La K a_least f_least] A) args s 0 0 A) D classes A 10 48 [wd_Md K a_self (a_least 0) s_self, wd_La K a_least s_least] [(0, .ref (a_self 0)), (1, .int v1), (2, .int v2), (3, .int v3)] [] := by
  unfold f_Md_shortest_48 at h
  refine gd_iload_n X d_Md_shortest_48 3 rfl ?_
  refine gd_aload_n X d_Md_shortest_49 0 rfl ?_
  refine gd_get X (ci := 7) (C := R_Md) (T := F_Md) (N := 36) (v := .int (s_self 0 4)) 0 0 rfl rfl rfl (in_Md _) 4 (by decide) (List.mem_cons_of_mem _ fl_Md_103) rfl rfl d_Md_shortest_50 ?_
  refine gd_icmp_ge X (tgt := 206) d_Md_shortest_53 (by decide) (fun c_1 => ?_) (fun c_1 => ?_)
  · replace h := it_p c_1 h
    refine gd_loc (lv' := [(0, .ref (a_self 0)), (1, .int v1), (2, .int v2)]) [0, 1, 2] rfl ?_
    exact hkx206 s_least v2 h
  · replace h := it_n c_1 h
    refine gd_lconst X (v := 0) d_Md_shortest_56 (by decide) ?_
    refine gd_lstore X (lv' := [(4, .long 0), (0, .ref (a_self 0)), (1, .int v1), (2, .int v2), (3, .int v3)]) d_Md_shortest_57 (by decide) rfl ?_
    refine gd_iconst X (v := 0) d_Md_shortest_59 (by decide) ?_
    refine gd_istore X (lv' := [(6, .int 0), (4, .long 0), (0, .ref (a_self 0)), (1, .int v1), (2, .int v2), (3, .int v3)]) d_Md_shortest_60 (by decide) rfl ?_
    refine gd_loc (lv' := [(0, .ref (a_self 0)), (1, .int v1), (2, .int v2), (3, .int v3), (4, .long 0), (6, .int 0)]) [2, 3, 4, 5, 1, 0] rfl ?_
    exact tl_Md_shortest_62 a_self a_least X hr hlk N r f_self f_least s_self s_least v1 v2 v3 (fun v4 => f_Md_shortest_145 N kb kx206 s_self s_least v1 v2 v3 v4) (fun v4 h => t_Md_shortest_145 a_self a_least X hr hlk N r f_self f_least s_self s_least v1 v2 v3 v4 kb hkb kx206 hkx206 h) N 0 0 h
def f_Md_shortest_206 (N : Nat) (kb : (Nat → Int64) → Int32 → Option ((Int32) × (Nat → Nat → Int32) × (Nat → Int64))) (kx209 : (Nat → Int64) → Option ((Int32) × (Nat → Nat → Int32) × (Nat → Int64))) (s_self : Nat → Nat → Int32) (s_least : Nat → Int64) (v1 v2 : Int32) : Option ((Int32) × (Nat → Nat → Int32) × (Nat → Int64)) :=
  kb s_least v2
set_option maxHeartbeats 4000000 in
set_option maxRecDepth 100000 in
theorem t_Md_shortest_206 {p : Program} {l : Launch} {e : Env} {s : State} {m : MethodId} {args : Array Value} {below : List Frame} {meth : Method} {c : Code} {A : Nat → Prop} {D : va_G} {K : Nat → ClassId} (a_self a_least : Nat → Nat) (X : gx p s m args c b_Md_shortest 10 R_Md w_Md_shortest D classes (tyK K) A) (hr : meth.sig.returnType = some .int) (hlk : meth.locks = false) (N : Nat) (r : Int32) (f_self : Nat → Nat → Int32) (f_least : Nat → Int64) (s_self : Nat → Nat → Int32) (s_least : Nat → Int64) (v1 v2 : Int32) (kb : (Nat → Int64) → Int32 → Option ((Int32) × (Nat → Nat → Int32) × (Nat → Int64))) (hkb : ∀ (s_least : Nat → Int64) (v2 : Int32), kb s_least v2 = some (r, f_self, f_least) → Gd p l e rm_Md_shortest s m args below meth c 0 0 (MQ below (sq D classes (tyK K) (some (.int r)) [wd_Md K a_self (a_least 0) f_self, wd_La K a_least f_least] A) args s 0 0 A) D classes A 10 40 [wd_Md K a_self (a_least 0) s_self, wd_La K a_least s_least] [(0, .ref (a_self 0)), (1, .int v1), (2, .int v2)] []) (kx209 : (Nat → Int64) → Option ((Int32) × (Nat → Nat → Int32) × (Nat → Int64))) (hkx209 : ∀ (s_least : Nat → Int64), kx209 s_least = some (r, f_self, f_least) → Gd p l e rm_Md_shortest s m args below meth c 0 0 (MQ below (sq D classes (tyK K) (some (.int r)) [wd_Md K a_self (a_least 0) f_self, wd_La K a_least f_least] A) args s 0 0 A) D classes A 10 209 [wd_Md K a_self (a_least 0) s_self, wd_La K a_least s_least] [(0, .ref (a_self 0)), (1, .int v1)] []) (h : f_Md_shortest_206 N kb kx209 s_self s_least v1 v2 = some (r, f_self, f_least)) : Gd p l e rm_Md_shortest s m args below meth c 0 0 (MQ below (sq D classes (tyK K) (some (.int r)) [wd_Md K a_self (a_least 0) f_self, wd_La K a_least f_least] A) args s 0 0 A) D classes A 10 206 [wd_Md K a_self (a_least 0) s_self, wd_La K a_least s_least] [(0, .ref (a_self 0)), (1, .int v1), (2, .int v2)] [] := by
  unfold f_Md_shortest_206 at h
  refine gd_goto X (tgt := 40) d_Md_shortest_206 (by decide) ?_
  exact hkb s_least v2 h
def l_Md_shortest_48 (N : Nat) (s_self : Nat → Nat → Int32) (v1 : Int32) (kx206 : (Nat → Int64) → Int32 → Option ((Int32) × (Nat → Nat → Int32) × (Nat → Int64))) : Nat → (Nat → Int64) → Int32 → Int32 → Option ((Int32) × (Nat → Nat → Int32) × (Nat → Int64))
  | 0, _, _, _ => none
  | n + 1, s_least, v2, v3 => f_Md_shortest_48 N (l_Md_shortest_48 N s_self v1 kx206 n) kx206 s_self s_least v1 v2 v3
set_option maxHeartbeats 4000000 in
set_option maxRecDepth 100000 in
theorem tl_Md_shortest_48 {p : Program} {l : Launch} {e : Env} {s : State} {m : MethodId} {args : Array Value} {below : List Frame} {meth : Method} {c : Code} {A : Nat → Prop} {D : va_G} {K : Nat → ClassId} (a_self a_least : Nat → Nat) (X : gx p s m args c b_Md_shortest 10 R_Md w_Md_shortest D classes (tyK K) A) (hr : meth.sig.returnType = some .int) (hlk : meth.locks = false) (N : Nat) (r : Int32) (f_self : Nat → Nat → Int32) (f_least : Nat → Int64) (s_self : Nat → Nat → Int32) (v1 : Int32) (kx206 : (Nat → Int64) → Int32 → Option ((Int32) × (Nat → Nat → Int32) × (Nat → Int64))) (hkx206 : ∀ (s_least : Nat → Int64) (v2 : Int32), kx206 s_least v2 = some (r, f_self, f_least) → Gd p l e rm_Md_shortest s m args below meth c 0 0 (MQ below (sq D classes (tyK K) (some (.int r)) [wd_Md K a_self (a_least 0) f_self, wd_La K a_least f_least] A) args s 0 0 A) D classes A 10 206 [wd_Md K a_self (a_least 0) s_self, wd_La K a_least s_least] [(0, .ref (a_self 0)), (1, .int v1), (2, .int v2)] []) : ∀ (n : Nat) (s_least : Nat → Int64) (v2 v3 : Int32), l_Md_shortest_48 N s_self v1 kx206 n s_least v2 v3 = some (r, f_self, f_least) → Gd p l e rm_Md_shortest s m args below meth c 0 0 (MQ below (sq D classes (tyK K) (some (.int r)) [wd_Md K a_self (a_least 0) f_self, wd_La K a_least f_least] A) args s 0 0 A) D classes A 10 48 [wd_Md K a_self (a_least 0) s_self, wd_La K a_least s_least] [(0, .ref (a_self 0)), (1, .int v1), (2, .int v2), (3, .int v3)] [] := by
  intro n
  induction n with
  | zero => intro s_least v2 v3 h; have h : (none : Option ((Int32) × (Nat → Nat → Int32) × (Nat → Int64))) = some _ := h; cases h
  | succ n ih =>
    intro s_least v2 v3 h
    exact t_Md_shortest_48 a_self a_least X hr hlk N r f_self f_least s_self s_least v1 v2 v3 (l_Md_shortest_48 N s_self v1 kx206 n) ih kx206 hkx206 h
def f_Md_shortest_40 (N : Nat) (kb : (Nat → Int64) → Int32 → Option ((Int32) × (Nat → Nat → Int32) × (Nat → Int64))) (kx209 : (Nat → Int64) → Option ((Int32) × (Nat → Nat → Int32) × (Nat → Int64))) (s_self : Nat → Nat → Int32) (s_least : Nat → Int64) (v1 v2 : Int32) : Option ((Int32) × (Nat → Nat → Int32) × (Nat → Int64)) :=
  if v2 = 0 then
    kx209 s_least
  else
    l_Md_shortest_48 N s_self v1 (fun s_least v2 => f_Md_shortest_206 N kb kx209 s_self s_least v1 v2) N s_least 0 0
set_option maxHeartbeats 4000000 in
set_option maxRecDepth 100000 in
theorem t_Md_shortest_40 {p : Program} {l : Launch} {e : Env} {s : State} {m : MethodId} {args : Array Value} {below : List Frame} {meth : Method} {c : Code} {A : Nat → Prop} {D : va_G} {K : Nat → ClassId} (a_self a_least : Nat → Nat) (X : gx p s m args c b_Md_shortest 10 R_Md w_Md_shortest D classes (tyK K) A) (hr : meth.sig.returnType = some .int) (hlk : meth.locks = false) (N : Nat) (r : Int32) (f_self : Nat → Nat → Int32) (f_least : Nat → Int64) (s_self : Nat → Nat → Int32) (s_least : Nat → Int64) (v1 v2 : Int32) (kb : (Nat → Int64) → Int32 → Option ((Int32) × (Nat → Nat → Int32) × (Nat → Int64))) (hkb : ∀ (s_least : Nat → Int64) (v2 : Int32), kb s_least v2 = some (r, f_self, f_least) → Gd p l e rm_Md_shortest s m args below meth c 0 0 (MQ below (sq D classes (tyK K) (some (.int r)) [wd_Md K a_self (a_least 0) f_self, wd_La K a_least f_least] A) args s 0 0 A) D classes A 10 40 [wd_Md K a_self (a_least 0) s_self, wd_La K a_least s_least] [(0, .ref (a_self 0)), (1, .int v1), (2, .int v2)] []) (kx209 : (Nat → Int64) → Option ((Int32) × (Nat → Nat → Int32) × (Nat → Int64))) (hkx209 : ∀ (s_least : Nat → Int64), kx209 s_least = some (r, f_self, f_least) → Gd p l e rm_Md_shortest s m args below meth c 0 0 (MQ below (sq D classes (tyK K) (some (.int r)) [wd_Md K a_self (a_least 0) f_self, wd_La K a_least f_least] A) args s 0 0 A) D classes A 10 209 [wd_Md K a_self (a_least 0) s_self, wd_La K a_least s_least] [(0, .ref (a_self 0)), (1, .int v1)] []) (h : f_Md_shortest_40 N kb kx209 s_self s_least v1 v2 = some (r, f_self, f_least)) : Gd p l e rm_Md_shortest s m args below meth c 0 0 (MQ below (sq D classes (tyK K) (some (.int r)) [wd_Md K a_self (a_least 0) f_self, wd_La K a_least f_least] A) args s 0 0 A) D classes A 10 40 [wd_Md K a_self (a_least 0) s_self, wd_La K a_least s_least] [(0, .ref (a_self 0)), (1, .int v1), (2, .int v2)] [] := by
  unfold f_Md_shortest_40 at h
  refine gd_iload_n X d_Md_shortest_40 2 rfl ?_
  refine gd_if_eq X (tgt := 209) d_Md_shortest_41 (by decide) (fun c_1 => ?_) (fun c_1 => ?_)
  · replace h := it_p c_1 h
    refine gd_loc (lv' := [(0, .ref (a_self 0)), (1, .int v1)]) [0, 1] rfl ?_
    exact hkx209 s_least h
  · replace h := it_n c_1 h
    refine gd_iconst X (v := 0) d_Md_shortest_44 (by decide) ?_
    refine gd_istore_n X (lv' := [(2, .int 0), (0, .ref (a_self 0)), (1, .int v1)]) d_Md_shortest_45 rfl (by decide) rfl ?_
    refine gd_iconst X (v := 0) d_Md_shortest_46 (by decide) ?_
    refine gd_istore_n X (lv' := [(3, .int 0), (2, .int 0), (0, .ref (a_self 0)), (1, .int v1)]) d_Md_shortest_47 rfl (by decide) rfl ?_
    refine gd_loc (lv' := [(0, .ref (a_self 0)), (1, .int v1), (2, .int 0), (3, .int 0)]) [2, 3, 1, 0] rfl ?_
    exact tl_Md_shortest_48 a_self a_least X hr hlk N r f_self f_least s_self v1 (fun s_least v2 => f_Md_shortest_206 N kb kx209 s_self s_least v1 v2) (fun s_least v2 h => t_Md_shortest_206 a_self a_least X hr hlk N r f_self f_least s_self s_least v1 v2 kb hkb kx209 hkx209 h) N s_least 0 0 h
def f_Md_shortest_209 (N : Nat) (s_self : Nat → Nat → Int32) (s_least : Nat → Int64) (v1 : Int32) : Option ((Int32) × (Nat → Nat → Int32) × (Nat → Int64)) :=
  ck v1 6 <|
  some ((Int64.toInt32 (s_least (Int32.toNatClampNeg v1))), s_self, s_least)
set_option maxHeartbeats 4000000 in
set_option maxRecDepth 100000 in
theorem t_Md_shortest_209 {p : Program} {l : Launch} {e : Env} {s : State} {m : MethodId} {args : Array Value} {below : List Frame} {meth : Method} {c : Code} {A : Nat → Prop} {D : va_G} {K : Nat → ClassId} (a_self a_least : Nat → Nat) (X : gx p s m args c b_Md_shortest 10 R_Md w_Md_shortest D classes (tyK K) A) (hr : meth.sig.returnType = some .int) (hlk : meth.locks = false) (N : Nat) (r : Int32) (f_self : Nat → Nat → Int32) (f_least : Nat → Int64) (s_self : Nat → Nat → Int32) (s_least : Nat → Int64) (v1 : Int32) (h : f_Md_shortest_209 N s_self s_least v1 = some (r, f_self, f_least)) : Gd p l e rm_Md_shortest s m args below meth c 0 0 (MQ below (sq D classes (tyK K) (some (.int r)) [wd_Md K a_self (a_least 0) f_self, wd_La K a_least f_least] A) args s 0 0 A) D classes A 10 209 [wd_Md K a_self (a_least 0) s_self, wd_La K a_least s_least] [(0, .ref (a_self 0)), (1, .int v1)] [] := by
  unfold f_Md_shortest_209 at h
  refine gd_aload_n X d_Md_shortest_209 0 rfl ?_
  refine gd_get X (ci := 7) (C := R_Md) (T := F_Md) (N := 36) (v := .ref (a_least 0)) 0 0 rfl rfl rfl (in_Md _) 35 (by decide) (List.mem_cons_of_mem _ fl_Md_82) rfl rfl d_Md_shortest_210 ?_
  refine gd_iload_n X d_Md_shortest_213 1 rfl ?_
  obtain ⟨hi_1, h⟩ := ck_e h
  refine gd_lald X 1 0 2 rfl rfl rfl hi_1 d_Md_shortest_214 ?_
  refine gd_l2i X d_Md_shortest_215 ?_
  cases h
  exact gd_iret X hr hlk d_Md_shortest_216
def l_Md_shortest_40 (N : Nat) (s_self : Nat → Nat → Int32) (v1 : Int32) (kx209 : (Nat → Int64) → Option ((Int32) × (Nat → Nat → Int32) × (Nat → Int64))) : Nat → (Nat → Int64) → Int32 → Option ((Int32) × (Nat → Nat → Int32) × (Nat → Int64))
  | 0, _, _ => none
  | n + 1, s_least, v2 => f_Md_shortest_40 N (l_Md_shortest_40 N s_self v1 kx209 n) kx209 s_self s_least v1 v2
set_option maxHeartbeats 4000000 in
set_option maxRecDepth 100000 in
theorem tl_Md_shortest_40 {p : Program} {l : Launch} {e : Env} {s : State} {m : MethodId} {args : Array Value} {below : List Frame} {meth : Method} {c : Code} {A : Nat → Prop} {D : va_G} {K : Nat → ClassId} (a_self a_least : Nat → Nat) (X : gx p s m args c b_Md_shortest 10 R_Md w_Md_shortest D classes (tyK K) A) (hr : meth.sig.returnType = some .int) (hlk : meth.locks = false) (N : Nat) (r : Int32) (f_self : Nat → Nat → Int32) (f_least : Nat → Int64) (s_self : Nat → Nat → Int32) (v1 : Int32) (kx209 : (Nat → Int64) → Option ((Int32) × (Nat → Nat → Int32) × (Nat → Int64))) (hkx209 : ∀ (s_least : Nat → Int64), kx209 s_least = some (r, f_self, f_least) → Gd p l e rm_Md_shortest s m args below meth c 0 0 (MQ below (sq D classes (tyK K) (some (.int r)) [wd_Md K a_self (a_least 0) f_self, wd_La K a_least f_least] A) args s 0 0 A) D classes A 10 209 [wd_Md K a_self (a_least 0) s_self, wd_La K a_least s_least] [(0, .ref (a_self 0)), (1, .int v1)] []) : ∀ (n : Nat) (s_least : Nat → Int64) (v2 : Int32), l_Md_shortest_40 N s_self v1 kx209 n s_least v2 = some (r, f_self, f_least) → Gd p l e rm_Md_shortest s m args below meth c 0 0 (MQ below (sq D classes (tyK K) (some (.int r)) [wd_Md K a_self (a_least 0) f_self, wd_La K a_least f_least] A) args s 0 0 A) D classes A 10 40 [wd_Md K a_self (a_least 0) s_self, wd_La K a_least s_least] [(0, .ref (a_self 0)), (1, .int v1), (2, .int v2)] [] := by
  intro n
  induction n with
  | zero => intro s_least v2 h; have h : (none : Option ((Int32) × (Nat → Nat → Int32) × (Nat → Int64))) = some _ := h; cases h
  | succ n ih =>
    intro s_least v2 h
    exact t_Md_shortest_40 a_self a_least X hr hlk N r f_self f_least s_self s_least v1 v2 (l_Md_shortest_40 N s_self v1 kx209 n) ih kx209 hkx209 h
def f_Md_shortest_38 (N : Nat) (s_self : Nat → Nat → Int32) (s_least : Nat → Int64) (v1 : Int32) : Option ((Int32) × (Nat → Nat → Int32) × (Nat → Int64)) :=
  l_Md_shortest_40 N s_self v1 (fun s_least => f_Md_shortest_209 N s_self s_least v1) N s_least 1
set_option maxHeartbeats 4000000 in
set_option maxRecDepth 100000 in
theorem t_Md_shortest_38 {p : Program} {l : Launch} {e : Env} {s : State} {m : MethodId} {args : Array Value} {below : List Frame} {meth : Method} {c : Code} {A : Nat → Prop} {D : va_G} {K : Nat → ClassId} (a_self a_least : Nat → Nat) (X : gx p s m args c b_Md_shortest 10 R_Md w_Md_shortest D classes (tyK K) A) (hr : meth.sig.returnType = some .int) (hlk : meth.locks = false) (N : Nat) (r : Int32) (f_self : Nat → Nat → Int32) (f_least : Nat → Int64) (s_self : Nat → Nat → Int32) (s_least : Nat → Int64) (v1 : Int32) (h : f_Md_shortest_38 N s_self s_least v1 = some (r, f_self, f_least)) : Gd p l e rm_Md_shortest s m args below meth c 0 0 (MQ below (sq D classes (tyK K) (some (.int r)) [wd_Md K a_self (a_least 0) f_self, wd_La K a_least f_least] A) args s 0 0 A) D classes A 10 38 [wd_Md K a_self (a_least 0) s_self, wd_La K a_least s_least] [(0, .ref (a_self 0)), (1, .int v1)] [] := by
  unfold f_Md_shortest_38 at h
  refine gd_iconst X (v := 1) d_Md_shortest_38 (by decide) ?_
  refine gd_istore_n X (lv' := [(2, .int 1), (0, .ref (a_self 0)), (1, .int v1)]) d_Md_shortest_39 rfl (by decide) rfl ?_
  refine gd_loc (lv' := [(0, .ref (a_self 0)), (1, .int v1), (2, .int 1)]) [1, 2, 0] rfl ?_
  exact tl_Md_shortest_40 a_self a_least X hr hlk N r f_self f_least s_self v1 (fun s_least => f_Md_shortest_209 N s_self s_least v1) (fun s_least h => t_Md_shortest_209 a_self a_least X hr hlk N r f_self f_least s_self s_least v1 h) N s_least 1 h
def l_Md_shortest_17 (N : Nat) (s_self : Nat → Nat → Int32) (v1 : Int32) (kx38 : (Nat → Int64) → Option ((Int32) × (Nat → Nat → Int32) × (Nat → Int64))) : Nat → (Nat → Int64) → Int32 → Option ((Int32) × (Nat → Nat → Int32) × (Nat → Int64))
  | 0, _, _ => none
  | n + 1, s_least, v2 => f_Md_shortest_17 N (l_Md_shortest_17 N s_self v1 kx38 n) kx38 s_self s_least v1 v2
set_option maxHeartbeats 4000000 in
set_option maxRecDepth 100000 in
theorem tl_Md_shortest_17 {p : Program} {l : Launch} {e : Env} {s : State} {m : MethodId} {args : Array Value} {below : List Frame} {meth : Method} {c : Code} {A : Nat → Prop} {D : va_G} {K : Nat → ClassId} (a_self a_least : Nat → Nat) (X : gx p s m args c b_Md_shortest 10 R_Md w_Md_shortest D classes (tyK K) A) (hr : meth.sig.returnType = some .int) (hlk : meth.locks = false) (N : Nat) (r : Int32) (f_self : Nat → Nat → Int32) (f_least : Nat → Int64) (s_self : Nat → Nat → Int32) (v1 : Int32) (kx38 : (Nat → Int64) → Option ((Int32) × (Nat → Nat → Int32) × (Nat → Int64))) (hkx38 : ∀ (s_least : Nat → Int64), kx38 s_least = some (r, f_self, f_least) → Gd p l e rm_Md_shortest s m args below meth c 0 0 (MQ below (sq D classes (tyK K) (some (.int r)) [wd_Md K a_self (a_least 0) f_self, wd_La K a_least f_least] A) args s 0 0 A) D classes A 10 38 [wd_Md K a_self (a_least 0) s_self, wd_La K a_least s_least] [(0, .ref (a_self 0)), (1, .int v1)] []) : ∀ (n : Nat) (s_least : Nat → Int64) (v2 : Int32), l_Md_shortest_17 N s_self v1 kx38 n s_least v2 = some (r, f_self, f_least) → Gd p l e rm_Md_shortest s m args below meth c 0 0 (MQ below (sq D classes (tyK K) (some (.int r)) [wd_Md K a_self (a_least 0) f_self, wd_La K a_least f_least] A) args s 0 0 A) D classes A 10 17 [wd_Md K a_self (a_least 0) s_self, wd_La K a_least s_least] [(0, .ref (a_self 0)), (1, .int v1), (2, .int v2)] [] := by
  intro n
  induction n with
  | zero => intro s_least v2 h; have h : (none : Option ((Int32) × (Nat → Nat → Int32) × (Nat → Int64))) = some _ := h; cases h
  | succ n ih =>
    intro s_least v2 h
    exact t_Md_shortest_17 a_self a_least X hr hlk N r f_self f_least s_self s_least v1 v2 (l_Md_shortest_17 N s_self v1 kx38 n) ih kx38 hkx38 h
def f_Md_shortest_0 (N : Nat) (s_self : Nat → Nat → Int32) (s_least : Nat → Int64) (v1 : Int32) : Option ((Int32) × (Nat → Nat → Int32) × (Nat → Int64)) :=
  nm (st2 s_self 0 0 0) fun s_self_1 =>
  bd1 (m_Md_isSort s_self_1 v1) fun r_2 =>
  if r_2 = 0 then
    some (((-1)), s_self_1, s_least)
  else
    l_Md_shortest_17 N s_self_1 v1 (fun s_least => f_Md_shortest_38 N s_self_1 s_least v1) N s_least 0
set_option maxHeartbeats 4000000 in
set_option maxRecDepth 100000 in
theorem t_Md_shortest_0 {p : Program} {l : Launch} {e : Env} {s : State} {m : MethodId} {args : Array Value} {below : List Frame} {meth : Method} {c : Code} {A : Nat → Prop} {D : va_G} {K : Nat → ClassId} (a_self a_least : Nat → Nat) (X : gx p s m args c b_Md_shortest 10 R_Md w_Md_shortest D classes (tyK K) A) (hr : meth.sig.returnType = some .int) (hlk : meth.locks = false) (N : Nat) (r : Int32) (f_self : Nat → Nat → Int32) (f_least : Nat → Int64) (s_self : Nat → Nat → Int32) (s_least : Nat → Int64) (v1 : Int32) (h : f_Md_shortest_0 N s_self s_least v1 = some (r, f_self, f_least)) : Gd p l e rm_Md_shortest s m args below meth c 0 0 (MQ below (sq D classes (tyK K) (some (.int r)) [wd_Md K a_self (a_least 0) f_self, wd_La K a_least f_least] A) args s 0 0 A) D classes A 10 0 [wd_Md K a_self (a_least 0) s_self, wd_La K a_least s_least] [(0, .ref (a_self 0)), (1, .int v1)] [] := by
  unfold f_Md_shortest_0 at h
  refine gd_aload_n X d_Md_shortest_0 0 rfl ?_
  refine gd_iconst X (v := 0) d_Md_shortest_1 (by decide) ?_
  obtain ⟨s_self_1, es_self_1, h⟩ := nm_e' h
  refine gd_put X (ci := 7) (C := R_Md) (T := F_Md) (N := 36) (ty := .int) (w' := [wd_Md K a_self (a_least 0) s_self_1, wd_La K a_least s_least]) 0 0 rfl rfl rfl (in_Md _) t_Md t_Md_ok n_Md 0 (by decide) (List.mem_cons_of_mem _ fl_Md_86) rfl rfl (by decide +kernel) rfl rfl (Nat.le_of_ble_eq_true rfl) d_Md_shortest_2 (by rw [es_self_1]; rfl) ?_
  refine gd_aload_n X d_Md_shortest_5 0 rfl ?_
  refine gd_iload_n X d_Md_shortest_6 1 rfl ?_
  obtain ⟨r_2, hc_3, h⟩ := bd1_e h
  refine gd_pI X (gd_V X (As := [.int v1]) (rest := []) (c_Md_isSort l D K a_self a_least s_self_1 v1 r_2 hc_3) 1 (gi_V ml_Md_99 u_Md_isSort) rfl ⟨rfl, rfl⟩ (by decide +kernel) ⟨by decide, by decide⟩ (ci := 7) rfl rfl rfl rfl rfl rfl (Nat.le_of_ble_eq_true rfl) ⟨Nat.zero_le _, Nat.zero_le _⟩ d_Md_shortest_7) [0] rfl rfl ?_
  refine gd_if_ne X (tgt := 15) d_Md_shortest_10 (by decide) (fun c_4 => ?_) (fun c_4 => ?_)
  · replace h := it_n c_4 h
    refine gd_iconst X (v := 0) d_Md_shortest_15 (by decide) ?_
    refine gd_istore_n X (lv' := [(2, .int 0), (0, .ref (a_self 0)), (1, .int v1)]) d_Md_shortest_16 rfl (by decide) rfl ?_
    refine gd_loc (lv' := [(0, .ref (a_self 0)), (1, .int v1), (2, .int 0)]) [1, 2, 0] rfl ?_
    exact tl_Md_shortest_17 a_self a_least X hr hlk N r f_self f_least s_self_1 v1 (fun s_least => f_Md_shortest_38 N s_self_1 s_least v1) (fun s_least h => t_Md_shortest_38 a_self a_least X hr hlk N r f_self f_least s_self_1 s_least v1 h) N s_least 0 h
  · replace h := it_p c_4 h
    refine gd_iconst X (v := (-1)) d_Md_shortest_13 (by decide) ?_
    cases h
    exact gd_iret X hr hlk d_Md_shortest_14
def m_Md_shortest (N : Nat) (s_self : Nat → Nat → Int32) (s_least : Nat → Int64) (v1 : Int32) : Option ((Int32) × (Nat → Nat → Int32) × (Nat → Int64)) := f_Md_shortest_0 N s_self s_least v1
set_option maxHeartbeats 4000000 in
set_option maxRecDepth 100000 in
theorem c_Md_shortest (l : Launch) (D : va_G) (K : Nat → ClassId) (a_self a_least : Nat → Nat) (N : Nat) (s_self : Nat → Nat → Int32) (s_least : Nat → Int64) (v1 : Int32) (r : Int32) (f_self : Nat → Nat → Int32) (f_least : Nat → Int64) (h : m_Md_shortest N s_self s_least v1 = some (r, f_self, f_least)) : SMet l y_Md_shortest w_Md_shortest rm_Md_shortest D classes (tyK K) [.ref (a_self 0), .int v1] (some (.int r)) [wd_Md K a_self (a_least 0) s_self, wd_La K a_least s_least] [wd_Md K a_self (a_least 0) f_self, wd_La K a_least f_least] := by
  refine sm_of R_Md (by decide) rfl rfl (Nat.le_of_ble_eq_true rfl) ?_
  intro p e s m below meth c A X hr hlk
  refine gd_loc (lv' := [(0, .ref (a_self 0)), (1, .int v1)]) [0, 1] rfl ?_
  exact t_Md_shortest_0 a_self a_least X hr hlk N r f_self f_least s_self s_least v1 h
