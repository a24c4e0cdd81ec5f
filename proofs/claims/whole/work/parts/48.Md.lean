abbrev b_Md_makeRow : ByteArray := prog_10_method_43_code
def y_Md_makeRow : MethodName := ⟨R_Md, "makeRow", "(I)V"⟩
def w_Md_makeRow : List Cond := .code y_Md_makeRow b_Md_makeRow 8 none :: TB
theorem k_Md_makeRow : Cond.code y_Md_makeRow b_Md_makeRow 8 none ∈ TB := tb_of 993 (by decide +kernel) (by decide +kernel)
theorem d_Md_makeRow_0 : decode b_Md_makeRow 0 = .ok (.iconst 0, 1) := by decide +kernel
theorem d_Md_makeRow_1 : decode b_Md_makeRow 1 = .ok (.istore_n 2, 1) := by decide +kernel
theorem d_Md_makeRow_2 : decode b_Md_makeRow 2 = .ok (.iload_n 1, 1) := by decide +kernel
theorem d_Md_makeRow_3 : decode b_Md_makeRow 3 = .ok (.ifCond .ge 15, 3) := by decide +kernel
theorem d_Md_makeRow_6 : decode b_Md_makeRow 6 = .ok (.aload_n 0, 1) := by decide +kernel
theorem d_Md_makeRow_7 : decode b_Md_makeRow 7 = .ok (.getfield 79, 3) := by decide +kernel
theorem d_Md_makeRow_10 : decode b_Md_makeRow 10 = .ok (.iconst 0, 1) := by decide +kernel
theorem d_Md_makeRow_11 : decode b_Md_makeRow 11 = .ok (.iload_n 1, 1) := by decide +kernel
theorem d_Md_makeRow_12 : decode b_Md_makeRow 12 = .ok (.iastore, 1) := by decide +kernel
theorem d_Md_makeRow_13 : decode b_Md_makeRow 13 = .ok (.iconst 1, 1) := by decide +kernel
theorem d_Md_makeRow_14 : decode b_Md_makeRow 14 = .ok (.istore_n 2, 1) := by decide +kernel
theorem d_Md_makeRow_15 : decode b_Md_makeRow 15 = .ok (.goto 145, 3) := by decide +kernel
theorem d_Md_makeRow_18 : decode b_Md_makeRow 18 = .ok (.iconst 0, 1) := by decide +kernel
theorem d_Md_makeRow_19 : decode b_Md_makeRow 19 = .ok (.istore_n 3, 1) := by decide +kernel
theorem d_Md_makeRow_20 : decode b_Md_makeRow 20 = .ok (.iload_n 3, 1) := by decide +kernel
theorem d_Md_makeRow_21 : decode b_Md_makeRow 21 = .ok (.aload_n 0, 1) := by decide +kernel
theorem d_Md_makeRow_22 : decode b_Md_makeRow 22 = .ok (.getfield 16, 3) := by decide +kernel
theorem d_Md_makeRow_25 : decode b_Md_makeRow 25 = .ok (.iload_n 1, 1) := by decide +kernel
theorem d_Md_makeRow_26 : decode b_Md_makeRow 26 = .ok (.iaload, 1) := by decide +kernel
theorem d_Md_makeRow_27 : decode b_Md_makeRow 27 = .ok (.if_icmp .ge 119, 3) := by decide +kernel
theorem d_Md_makeRow_30 : decode b_Md_makeRow 30 = .ok (.aload_n 0, 1) := by decide +kernel
theorem d_Md_makeRow_31 : decode b_Md_makeRow 31 = .ok (.getfield 19, 3) := by decide +kernel
theorem d_Md_makeRow_34 : decode b_Md_makeRow 34 = .ok (.bipush 8, 2) := by decide +kernel
theorem d_Md_makeRow_36 : decode b_Md_makeRow 36 = .ok (.iload_n 1, 1) := by decide +kernel
theorem d_Md_makeRow_37 : decode b_Md_makeRow 37 = .ok (.imul, 1) := by decide +kernel
theorem d_Md_makeRow_38 : decode b_Md_makeRow 38 = .ok (.iload_n 3, 1) := by decide +kernel
theorem d_Md_makeRow_39 : decode b_Md_makeRow 39 = .ok (.iadd, 1) := by decide +kernel
theorem d_Md_makeRow_40 : decode b_Md_makeRow 40 = .ok (.iaload, 1) := by decide +kernel
theorem d_Md_makeRow_41 : decode b_Md_makeRow 41 = .ok (.istore 4, 2) := by decide +kernel
theorem d_Md_makeRow_43 : decode b_Md_makeRow 43 = .ok (.iload 4, 2) := by decide +kernel
theorem d_Md_makeRow_45 : decode b_Md_makeRow 45 = .ok (.ifCond .lt 7, 3) := by decide +kernel
theorem d_Md_makeRow_48 : decode b_Md_makeRow 48 = .ok (.iconst 0, 1) := by decide +kernel
theorem d_Md_makeRow_49 : decode b_Md_makeRow 49 = .ok (.goto 17, 3) := by decide +kernel
theorem d_Md_makeRow_52 : decode b_Md_makeRow 52 = .ok (.aload_n 0, 1) := by decide +kernel
theorem d_Md_makeRow_53 : decode b_Md_makeRow 53 = .ok (.getfield 207, 3) := by decide +kernel
theorem d_Md_makeRow_56 : decode b_Md_makeRow 56 = .ok (.iconst 1, 1) := by decide +kernel
theorem d_Md_makeRow_57 : decode b_Md_makeRow 57 = .ok (.isub, 1) := by decide +kernel
theorem d_Md_makeRow_58 : decode b_Md_makeRow 58 = .ok (.aload_n 0, 1) := by decide +kernel
theorem d_Md_makeRow_59 : decode b_Md_makeRow 59 = .ok (.iload_n 1, 1) := by decide +kernel
theorem d_Md_makeRow_60 : decode b_Md_makeRow 60 = .ok (.iload 4, 2) := by decide +kernel
theorem d_Md_makeRow_62 : decode b_Md_makeRow 62 = .ok (.invokevirtual 210, 3) := by decide +kernel
theorem d_Md_makeRow_65 : decode b_Md_makeRow 65 = .ok (.isub, 1) := by decide +kernel
theorem d_Md_makeRow_66 : decode b_Md_makeRow 66 = .ok (.istore 5, 2) := by decide +kernel
theorem d_Md_makeRow_68 : decode b_Md_makeRow 68 = .ok (.iload 4, 2) := by decide +kernel
theorem d_Md_makeRow_70 : decode b_Md_makeRow 70 = .ok (.ifCond .lt 7, 3) := by decide +kernel
theorem d_Md_makeRow_73 : decode b_Md_makeRow 73 = .ok (.iconst 1, 1) := by decide +kernel
theorem d_Md_makeRow_74 : decode b_Md_makeRow 74 = .ok (.goto 10, 3) := by decide +kernel
theorem d_Md_makeRow_77 : decode b_Md_makeRow 77 = .ok (.aload_n 0, 1) := by decide +kernel
theorem d_Md_makeRow_78 : decode b_Md_makeRow 78 = .ok (.getfield 76, 3) := by decide +kernel
theorem d_Md_makeRow_81 : decode b_Md_makeRow 81 = .ok (.iload 5, 2) := by decide +kernel
theorem d_Md_makeRow_83 : decode b_Md_makeRow 83 = .ok (.iaload, 1) := by decide +kernel
theorem d_Md_makeRow_84 : decode b_Md_makeRow 84 = .ok (.istore 6, 2) := by decide +kernel
theorem d_Md_makeRow_86 : decode b_Md_makeRow 86 = .ok (.iconst 0, 1) := by decide +kernel
theorem d_Md_makeRow_87 : decode b_Md_makeRow 87 = .ok (.istore 7, 2) := by decide +kernel
theorem d_Md_makeRow_89 : decode b_Md_makeRow 89 = .ok (.iload 7, 2) := by decide +kernel
theorem d_Md_makeRow_91 : decode b_Md_makeRow 91 = .ok (.iload 6, 2) := by decide +kernel
theorem d_Md_makeRow_93 : decode b_Md_makeRow 93 = .ok (.if_icmp .ge 47, 3) := by decide +kernel
theorem d_Md_makeRow_96 : decode b_Md_makeRow 96 = .ok (.iload_n 2, 1) := by decide +kernel
theorem d_Md_makeRow_97 : decode b_Md_makeRow 97 = .ok (.bipush 13, 2) := by decide +kernel
theorem d_Md_makeRow_99 : decode b_Md_makeRow 99 = .ok (.if_icmp .ge 41, 3) := by decide +kernel
theorem d_Md_makeRow_102 : decode b_Md_makeRow 102 = .ok (.aload_n 0, 1) := by decide +kernel
theorem d_Md_makeRow_103 : decode b_Md_makeRow 103 = .ok (.getfield 79, 3) := by decide +kernel
theorem d_Md_makeRow_106 : decode b_Md_makeRow 106 = .ok (.iload_n 2, 1) := by decide +kernel
theorem d_Md_makeRow_107 : decode b_Md_makeRow 107 = .ok (.iload 4, 2) := by decide +kernel
theorem d_Md_makeRow_109 : decode b_Md_makeRow 109 = .ok (.ifCond .lt 8, 3) := by decide +kernel
theorem d_Md_makeRow_112 : decode b_Md_makeRow 112 = .ok (.iload 4, 2) := by decide +kernel
theorem d_Md_makeRow_114 : decode b_Md_makeRow 114 = .ok (.goto 16, 3) := by decide +kernel
theorem d_Md_makeRow_117 : decode b_Md_makeRow 117 = .ok (.aload_n 0, 1) := by decide +kernel
theorem d_Md_makeRow_118 : decode b_Md_makeRow 118 = .ok (.getfield 73, 3) := by decide +kernel
theorem d_Md_makeRow_121 : decode b_Md_makeRow 121 = .ok (.bipush 13, 2) := by decide +kernel
theorem d_Md_makeRow_123 : decode b_Md_makeRow 123 = .ok (.iload 5, 2) := by decide +kernel
theorem d_Md_makeRow_125 : decode b_Md_makeRow 125 = .ok (.imul, 1) := by decide +kernel
theorem d_Md_makeRow_126 : decode b_Md_makeRow 126 = .ok (.iload 7, 2) := by decide +kernel
theorem d_Md_makeRow_128 : decode b_Md_makeRow 128 = .ok (.iadd, 1) := by decide +kernel
theorem d_Md_makeRow_129 : decode b_Md_makeRow 129 = .ok (.iaload, 1) := by decide +kernel
theorem d_Md_makeRow_130 : decode b_Md_makeRow 130 = .ok (.iastore, 1) := by decide +kernel
theorem d_Md_makeRow_131 : decode b_Md_makeRow 131 = .ok (.iinc 2 1, 3) := by decide +kernel
theorem d_Md_makeRow_134 : decode b_Md_makeRow 134 = .ok (.iinc 7 1, 3) := by decide +kernel
theorem d_Md_makeRow_137 : decode b_Md_makeRow 137 = .ok (.goto (-48), 3) := by decide +kernel
theorem d_Md_makeRow_140 : decode b_Md_makeRow 140 = .ok (.iinc 3 1, 3) := by decide +kernel
theorem d_Md_makeRow_143 : decode b_Md_makeRow 143 = .ok (.goto (-123), 3) := by decide +kernel
theorem d_Md_makeRow_146 : decode b_Md_makeRow 146 = .ok (.aload_n 0, 1) := by decide +kernel
theorem d_Md_makeRow_147 : decode b_Md_makeRow 147 = .ok (.aload_n 0, 1) := by decide +kernel
theorem d_Md_makeRow_148 : decode b_Md_makeRow 148 = .ok (.getfield 207, 3) := by decide +kernel
theorem d_Md_makeRow_151 : decode b_Md_makeRow 151 = .ok (.aload_n 0, 1) := by decide +kernel
theorem d_Md_makeRow_152 : decode b_Md_makeRow 152 = .ok (.iload_n 1, 1) := by decide +kernel
theorem d_Md_makeRow_153 : decode b_Md_makeRow 153 = .ok (.invokevirtual 213, 3) := by decide +kernel
theorem d_Md_makeRow_156 : decode b_Md_makeRow 156 = .ok (.isub, 1) := by decide +kernel
theorem d_Md_makeRow_157 : decode b_Md_makeRow 157 = .ok (.putfield 207, 3) := by decide +kernel
theorem d_Md_makeRow_160 : decode b_Md_makeRow 160 = .ok (.aload_n 0, 1) := by decide +kernel
theorem d_Md_makeRow_161 : decode b_Md_makeRow 161 = .ok (.getfield 76, 3) := by decide +kernel
theorem d_Md_makeRow_164 : decode b_Md_makeRow 164 = .ok (.aload_n 0, 1) := by decide +kernel
theorem d_Md_makeRow_165 : decode b_Md_makeRow 165 = .ok (.getfield 207, 3) := by decide +kernel
theorem d_Md_makeRow_168 : decode b_Md_makeRow 168 = .ok (.iload_n 2, 1) := by decide +kernel
theorem d_Md_makeRow_169 : decode b_Md_makeRow 169 = .ok (.iastore, 1) := by decide +kernel
theorem d_Md_makeRow_170 : decode b_Md_makeRow 170 = .ok (.iconst 0, 1) := by decide +kernel
theorem d_Md_makeRow_171 : decode b_Md_makeRow 171 = .ok (.istore_n 3, 1) := by decide +kernel
theorem d_Md_makeRow_172 : decode b_Md_makeRow 172 = .ok (.iload_n 3, 1) := by decide +kernel
theorem d_Md_makeRow_173 : decode b_Md_makeRow 173 = .ok (.iload_n 2, 1) := by decide +kernel
theorem d_Md_makeRow_174 : decode b_Md_makeRow 174 = .ok (.if_icmp .ge 29, 3) := by decide +kernel
theorem d_Md_makeRow_177 : decode b_Md_makeRow 177 = .ok (.aload_n 0, 1) := by decide +kernel
theorem d_Md_makeRow_178 : decode b_Md_makeRow 178 = .ok (.getfield 73, 3) := by decide +kernel
theorem d_Md_makeRow_181 : decode b_Md_makeRow 181 = .ok (.bipush 13, 2) := by decide +kernel
theorem d_Md_makeRow_183 : decode b_Md_makeRow 183 = .ok (.aload_n 0, 1) := by decide +kernel
theorem d_Md_makeRow_184 : decode b_Md_makeRow 184 = .ok (.getfield 207, 3) := by decide +kernel
theorem d_Md_makeRow_187 : decode b_Md_makeRow 187 = .ok (.imul, 1) := by decide +kernel
theorem d_Md_makeRow_188 : decode b_Md_makeRow 188 = .ok (.iload_n 3, 1) := by decide +kernel
theorem d_Md_makeRow_189 : decode b_Md_makeRow 189 = .ok (.iadd, 1) := by decide +kernel
theorem d_Md_makeRow_190 : decode b_Md_makeRow 190 = .ok (.aload_n 0, 1) := by decide +kernel
theorem d_Md_makeRow_191 : decode b_Md_makeRow 191 = .ok (.getfield 79, 3) := by decide +kernel
theorem d_Md_makeRow_194 : decode b_Md_makeRow 194 = .ok (.iload_n 3, 1) := by decide +kernel
theorem d_Md_makeRow_195 : decode b_Md_makeRow 195 = .ok (.iaload, 1) := by decide +kernel
theorem d_Md_makeRow_196 : decode b_Md_makeRow 196 = .ok (.iastore, 1) := by decide +kernel
theorem d_Md_makeRow_197 : decode b_Md_makeRow 197 = .ok (.iinc 3 1, 3) := by decide +kernel
theorem d_Md_makeRow_200 : decode b_Md_makeRow 200 = .ok (.goto (-28), 3) := by decide +kernel
theorem d_Md_makeRow_203 : decode b_Md_makeRow 203 = .ok (.aload_n 0, 1) := by decide +kernel
theorem d_Md_makeRow_204 : decode b_Md_makeRow 204 = .ok (.dup, 1) := by decide +kernel
theorem d_Md_makeRow_205 : decode b_Md_makeRow 205 = .ok (.getfield 207, 3) := by decide +kernel
theorem d_Md_makeRow_208 : decode b_Md_makeRow 208 = .ok (.iconst 1, 1) := by decide +kernel
theorem d_Md_makeRow_209 : decode b_Md_makeRow 209 = .ok (.iadd, 1) := by decide +kernel
theorem d_Md_makeRow_210 : decode b_Md_makeRow 210 = .ok (.putfield 207, 3) := by decide +kernel
theorem d_Md_makeRow_213 : decode b_Md_makeRow 213 = .ok (.return_, 1) := by decide +kernel
theorem fl_Md_79 : Cond.fieldLink R_Md 79 "RuleTreesModel" "made" "[I" ∈ TB := tb_of 754 (by decide +kernel) (by decide +kernel)
theorem fl_Md_73 : Cond.fieldLink R_Md 73 "RuleTreesModel" "rows" "[I" ∈ TB := tb_of 751 (by decide +kernel) (by decide +kernel)
theorem fl_Md_76 : Cond.fieldLink R_Md 76 "RuleTreesModel" "rowSizes" "[I" ∈ TB := tb_of 752 (by decide +kernel) (by decide +kernel)
theorem fl_Md_207 : Cond.fieldLink R_Md 207 "RuleTreesModel" "stood" "I" ∈ TB := tb_of 753 (by decide +kernel) (by decide +kernel)
theorem ml_Md_210 : Cond.methodLink R_Md 210 ⟨"RuleTreesModel", "rankOf", "(II)I"⟩ ∈ TB := tb_of 994 (by decide +kernel) (by decide +kernel)
theorem u_Md_rankOf : (Cond.instanceMethod y_Md_rankOf ∈ TB ∧ Cond.selects R_Md y_Md_rankOf y_Md_rankOf ∈ TB) ∧ Cond.initialized R_Md ∈ TB ∧ Cond.code y_Md_rankOf b_Md_rankOf 6 (some .int) ∈ TB := ⟨⟨(tb_of 996 (by decide +kernel) (by decide +kernel)), (tb_of 59 (by decide +kernel) (by decide +kernel))⟩, (tb_of 70 (by decide +kernel) (by decide +kernel)), k_Md_rankOf⟩
theorem ml_Md_213 : Cond.methodLink R_Md 213 ⟨"RuleTreesModel", "differentIn", "(I)I"⟩ ∈ TB := tb_of 998 (by decide +kernel) (by decide +kernel)
theorem u_Md_differentIn : (Cond.instanceMethod y_Md_differentIn ∈ TB ∧ Cond.selects R_Md y_Md_differentIn y_Md_differentIn ∈ TB) ∧ Cond.initialized R_Md ∈ TB ∧ Cond.code y_Md_differentIn b_Md_differentIn 4 (some .int) ∈ TB := ⟨⟨(tb_of 1000 (by decide +kernel) (by decide +kernel)), (tb_of 60 (by decide +kernel) (by decide +kernel))⟩, (tb_of 70 (by decide +kernel) (by decide +kernel)), k_Md_differentIn⟩
abbrev rm_Md_makeRow : Room := { frames := 3, cells := 0, slots := 0, locals := 74 }
def f_Md_makeRow_89 (N : Nat) (kb : (Nat → Nat → Int32) → Int32 → Int32 → Option ((Nat → Nat → Int32))) (kx140 : (Nat → Nat → Int32) → Int32 → Option ((Nat → Nat → Int32))) (s_self : Nat → Nat → Int32) (v1 v2 v3 v4 v5 v6 v7 : Int32) : Option ((Nat → Nat → Int32)) :=
  if v6 ≤ v7 then
    kx140 s_self v2
  else
    if 13 ≤ v2 then
      kx140 s_self v2
    else
      if v4 < 0 then
        ck ((13 * v5) + v7) 2600 <|
        ck v2 13 <| nm (st2 s_self 22 (Int32.toNatClampNeg v2) (s_self 20 (Int32.toNatClampNeg ((13 * v5) + v7)))) fun s_self_6 =>
        nm (v2 + 1) fun v2_7 =>
        nm (v7 + 1) fun v7_8 =>
        kb s_self_6 v2_7 v7_8
      else
        ck v2 13 <| nm (st2 s_self 22 (Int32.toNatClampNeg v2) v4) fun s_self_10 =>
        nm (v2 + 1) fun v2_11 =>
        nm (v7 + 1) fun v7_12 =>
        kb s_self_10 v2_11 v7_12
set_option maxHeartbeats 4000000 in
set_option maxRecDepth 100000 in
theorem t_Md_makeRow_89 {p : Program} {l : Launch} {e : Env} {s : State} {m : MethodId} {args : Array Value} {below : List Frame} {meth : Method} {c : Code} {A : Nat → Prop} {D : va_G} {K : Nat → ClassId} (a_self a_least : Nat → Nat) (X : gx p s m args c b_Md_makeRow 8 R_Md w_Md_makeRow D classes (tyK K) A) (hr : meth.sig.returnType = none) (hlk : meth.locks = false) (N : Nat) (f_self : Nat → Nat → Int32) (s_self : Nat → Nat → Int32) (v1 v2 v3 v4 v5 v6 v7 : Int32) (kb : (Nat → Nat → Int32) → Int32 → Int32 → Option ((Nat → Nat → Int32))) (hkb : ∀ (s_self : Nat → Nat → Int32) (v2 v7 : Int32), kb s_self v2 v7 = some f_self → Gd p l e rm_Md_makeRow s m args below meth c 0 0 (MQ below (sq D classes (tyK K) none [wd_Md K a_self (a_least 0) f_self] A) args s 0 0 A) D classes A 8 89 [wd_Md K a_self (a_least 0) s_self] [(0, .ref (a_self 0)), (1, .int v1), (2, .int v2), (3, .int v3), (4, .int v4), (5, .int v5), (6, .int v6), (7, .int v7)] []) (kx140 : (Nat → Nat → Int32) → Int32 → Option ((Nat → Nat → Int32))) (hkx140 : ∀ (s_self : Nat → Nat → Int32) (v2 : Int32), kx140 s_self v2 = some f_self → Gd p l e rm_Md_makeRow s m args below meth c 0 0 (MQ below (sq D classes (tyK K) none [wd_Md K a_self (a_least 0) f_self] A) args s 0 0 A) D classes A 8 140 [wd_Md K a_self (a_least 0) s_self] [(0, .ref (a_self 0)), (1, .int v1), (2, .int v2), (3, .int v3)] []) (h : f_Md_makeRow_89 N kb kx140 s_self v1 v2 v3 v4 v5 v6 v7 = some f_self) : Gd p l e rm_Md_makeRow s m args below meth c 0 0 (MQ below (sq D classes (tyK K) none [wd_Md K a_self (a_least 0) f_self] A) args s 0 0 A) D classes A 8 89 [wd_Md K a_self (a_least 0) s_self] [(0, .ref (a_self 0)), (1, .int v1), (2, .int v2), (3, .int v3), (4, .int v4), (5, .int v5), (6, .int v6), (7, .int v7)] [] := by
  unfold f_Md_makeRow_89 at h
  refine gd_iload X d_Md_makeRow_89 7 rfl ?_
  refine gd_iload X d_Md_makeRow_91 6 rfl ?_
  refine gd_icmp_ge X (tgt := 140) d_Md_makeRow_93 (by decide) (fun c_1 => ?_) (fun c_1 => ?_)
  · replace h := it_p c_1 h
    refine gd_loc (lv' := [(0, .ref (a_self 0)), (1, .int v1), (2, .int v2), (3, .int v3)]) [0, 1, 2, 3] rfl ?_
    exact hkx140 s_self v2 h
  · replace h := it_n c_1 h
    refine gd_iload_n X d_Md_makeRow_96 2 rfl ?_
    refine gd_bipush X (v := 13) d_Md_makeRow_97 (by decide) ?_
    refine gd_icmp_ge X (tgt := 140) d_Md_makeRow_99 (by decide) (fun c_2 => ?_) (fun c_2 => ?_)
    · replace h := it_p c_2 h
      refine gd_loc (lv' := [(0, .ref (a_self 0)), (1, .int v1), (2, .int v2), (3, .int v3)]) [0, 1, 2, 3] rfl ?_
      exact hkx140 s_self v2 h
    · replace h := it_n c_2 h
      refine gd_aload_n X d_Md_makeRow_102 0 rfl ?_
      refine gd_get X (ci := 7) (C := R_Md) (T := F_Md) (N := 36) (v := .ref (a_self 22)) 0 0 rfl rfl rfl (in_Md _) 34 (by decide) (List.mem_cons_of_mem _ fl_Md_79) rfl rfl d_Md_makeRow_103 ?_
      refine gd_iload_n X d_Md_makeRow_106 2 rfl ?_
      refine gd_iload X d_Md_makeRow_107 4 rfl ?_
      refine gd_if_lt X (tgt := 117) d_Md_makeRow_109 (by decide) (fun c_3 => ?_) (fun c_3 => ?_)
      · replace h := it_p c_3 h
        refine gd_aload_n X d_Md_makeRow_117 0 rfl ?_
        refine gd_get X (ci := 7) (C := R_Md) (T := F_Md) (N := 36) (v := .ref (a_self 20)) 0 0 rfl rfl rfl (in_Md _) 31 (by decide) (List.mem_cons_of_mem _ fl_Md_73) rfl rfl d_Md_makeRow_118 ?_
        refine gd_bipush X (v := 13) d_Md_makeRow_121 (by decide) ?_
        refine gd_iload X d_Md_makeRow_123 5 rfl ?_
        refine gd_imul X d_Md_makeRow_125 ?_
        refine gd_iload X d_Md_makeRow_126 7 rfl ?_
        refine gd_iadd X d_Md_makeRow_128 ?_
        obtain ⟨hi_4, h⟩ := ck_e h
        refine gd_iald X 0 20 0 rfl rfl rfl hi_4 d_Md_makeRow_129 ?_
        obtain ⟨hi_5, h⟩ := ck_e h
        obtain ⟨s_self_6, es_self_6, h⟩ := nm_e' h
        refine gd_iast X (w' := [wd_Md K a_self (a_least 0) s_self_6]) 0 22 0 rfl rfl rfl hi_5 d_Md_makeRow_130 (by rw [es_self_6]; rfl) ?_
        obtain ⟨v2_7, ev2_7, h⟩ := nm_e' h
        refine gd_iinc X (v := v2_7) (lv' := [(2, .int v2_7), (0, .ref (a_self 0)), (1, .int v1), (3, .int v3), (4, .int v4), (5, .int v5), (6, .int v6), (7, .int v7)]) d_Md_makeRow_131 (k := 2) rfl (by rw [ev2_7]; rfl) (by decide) rfl ?_
        obtain ⟨v7_8, ev7_8, h⟩ := nm_e' h
        refine gd_iinc X (v := v7_8) (lv' := [(7, .int v7_8), (2, .int v2_7), (0, .ref (a_self 0)), (1, .int v1), (3, .int v3), (4, .int v4), (5, .int v5), (6, .int v6)]) d_Md_makeRow_134 (k := 7) rfl (by rw [ev7_8]; rfl) (by decide) rfl ?_
        refine gd_goto X (tgt := 89) d_Md_makeRow_137 (by decide) ?_
        refine gd_loc (lv' := [(0, .ref (a_self 0)), (1, .int v1), (2, .int v2_7), (3, .int v3), (4, .int v4), (5, .int v5), (6, .int v6), (7, .int v7_8)]) [2, 3, 1, 4, 5, 6, 7, 0] rfl ?_
        exact hkb s_self_6 v2_7 v7_8 h
      · replace h := it_n c_3 h
        refine gd_iload X d_Md_makeRow_112 4 rfl ?_
        refine gd_goto X (tgt := 130) d_Md_makeRow_114 (by decide) ?_
        obtain ⟨hi_9, h⟩ := ck_e h
        obtain ⟨s_self_10, es_self_10, h⟩ := nm_e' h
        refine gd_iast X (w' := [wd_Md K a_self (a_least 0) s_self_10]) 0 22 0 rfl rfl rfl hi_9 d_Md_makeRow_130 (by rw [es_self_10]; rfl) ?_
        obtain ⟨v2_11, ev2_11, h⟩ := nm_e' h
        refine gd_iinc X (v := v2_11) (lv' := [(2, .int v2_11), (0, .ref (a_self 0)), (1, .int v1), (3, .int v3), (4, .int v4), (5, .int v5), (6, .int v6), (7, .int v7)]) d_Md_makeRow_131 (k := 2) rfl (by rw [ev2_11]; rfl) (by decide) rfl ?_
        obtain ⟨v7_12, ev7_12, h⟩ := nm_e' h
        refine gd_iinc X (v := v7_12) (lv' := [(7, .int v7_12), (2, .int v2_11), (0, .ref (a_self 0)), (1, .int v1), (3, .int v3), (4, .int v4), (5, .int v5), (6, .int v6)]) d_Md_makeRow_134 (k := 7) rfl (by rw [ev7_12]; rfl) (by decide) rfl ?_
        refine gd_goto X (tgt := 89) d_Md_makeRow_137 (by decide) ?_
        refine gd_loc (lv' := [(0, .ref (a_self 0)), (1, .int v1), (2, .int v2_11), (3, .int v3), (4, .int v4), (5, .int v5), (6, .int v6), (7, .int v7_12)]) [2, 3, 1, 4, 5, 6, 7, 0] rfl ?_
        exact hkb s_self_10 v2_11 v7_12 h
def f_Md_makeRow_140 (N : Nat) (kb : (Nat → Nat → Int32) → Int32 → Int32 → Option ((Nat → Nat → Int32))) (kx146 : (Nat → Nat → Int32) → Int32 → Option ((Nat → Nat → Int32))) (s_self : Nat → Nat → Int32) (v1 v2 v3 : Int32) : Option ((Nat → Nat → Int32)) :=
  nm (v3 + 1) fun v3_1 =>
  kb s_self v2 v3_1
set_option maxHeartbeats 4000000 in
set_option maxRecDepth 100000 in
theorem t_Md_makeRow_140 {p : Program} {l : Launch} {e : Env} {s : State} {m : MethodId} {args : Array Value} {below : List Frame} {meth : Method} {c : Code} {A : Nat → Prop} {D : va_G} {K : Nat → ClassId} (a_self a_least : Nat → Nat) (X : gx p s m args c b_Md_makeRow 8 R_Md w_Md_makeRow D classes (tyK K) A) (hr : meth.sig.returnType = none) (hlk : meth.locks = false) (N : Nat) (f_self : Nat → Nat → Int32) (s_self : Nat → Nat → Int32) (v1 v2 v3 : Int32) (kb : (Nat → Nat → Int32) → Int32 → Int32 → Option ((Nat → Nat → Int32))) (hkb : ∀ (s_self : Nat → Nat → Int32) (v2 v3 : Int32), kb s_self v2 v3 = some f_self → Gd p l e rm_Md_makeRow s m args below meth c 0 0 (MQ below (sq D classes (tyK K) none [wd_Md K a_self (a_least 0) f_self] A) args s 0 0 A) D classes A 8 20 [wd_Md K a_self (a_least 0) s_self] [(0, .ref (a_self 0)), (1, .int v1), (2, .int v2), (3, .int v3)] []) (kx146 : (Nat → Nat → Int32) → Int32 → Option ((Nat → Nat → Int32))) (hkx146 : ∀ (s_self : Nat → Nat → Int32) (v2 : Int32), kx146 s_self v2 = some f_self → Gd p l e rm_Md_makeRow s m args below meth c 0 0 (MQ below (sq D classes (tyK K) none [wd_Md K a_self (a_least 0) f_self] A) args s 0 0 A) D classes A 8 146 [wd_Md K a_self (a_least 0) s_self] [(0, .ref (a_self 0)), (1, .int v1), (2, .int v2)] []) (h : f_Md_makeRow_140 N kb kx146 s_self v1 v2 v3 = some f_self) : Gd p l e rm_Md_makeRow s m args below meth c 0 0 (MQ below (sq D classes (tyK K) none [wd_Md K a_self (a_least 0) f_self] A) args s 0 0 A) D classes A 8 140 [wd_Md K a_self (a_least 0) s_self] [(0, .ref (a_self 0)), (1, .int v1), (2, .int v2), (3, .int v3)] [] := by
  unfold f_Md_makeRow_140 at h
  obtain ⟨v3_1, ev3_1, h⟩ := nm_e' h
  refine gd_iinc X (v := v3_1) (lv' := [(3, .int v3_1), (0, .ref (a_self 0)), (1, .int v1), (2, .int v2)]) d_Md_makeRow_140 (k := 3) rfl (by rw [ev3_1]; rfl) (by decide) rfl ?_
  refine gd_goto X (tgt := 20) d_Md_makeRow_143 (by decide) ?_
  refine gd_loc (lv' := [(0, .ref (a_self 0)), (1, .int v1), (2, .int v2), (3, .int v3_1)]) [1, 2, 3, 0] rfl ?_
  exact hkb s_self v2 v3_1 h
def l_Md_makeRow_89 (N : Nat) (v1 v3 v4 v5 v6 : Int32) (kx140 : (Nat → Nat → Int32) → Int32 → Option ((Nat → Nat → Int32))) : Nat → (Nat → Nat → Int32) → Int32 → Int32 → Option ((Nat → Nat → Int32))
  | 0, _, _, _ => none
  | n + 1, s_self, v2, v7 => f_Md_makeRow_89 N (l_Md_makeRow_89 N v1 v3 v4 v5 v6 kx140 n) kx140 s_self v1 v2 v3 v4 v5 v6 v7
set_option maxHeartbeats 4000000 in
set_option maxRecDepth 100000 in
theorem tl_Md_makeRow_89 {p : Program} {l : Launch} {e : Env} {s : State} {m : MethodId} {args : Array Value} {below : List Frame} {meth : Method} {c : Code} {A : Nat → Prop} {D : va_G} {K : Nat → ClassId} (a_self a_least : Nat → Nat) (X : gx p s m args c b_Md_makeRow 8 R_Md w_Md_makeRow D classes (tyK K) A) (hr : meth.sig.returnType = none) (hlk : meth.locks = false) (N : Nat) (f_self : Nat → Nat → Int32) (v1 v3 v4 v5 v6 : Int32) (kx140 : (Nat → Nat → Int32) → Int32 → Option ((Nat → Nat → Int32))) (hkx140 : ∀ (s_self : Nat → Nat → Int32) (v2 : Int32), kx140 s_self v2 = some f_self → Gd p l e rm_Md_makeRow s m args below meth c 0 0 (MQ below (sq D classes (tyK K) none [wd_Md K a_self (a_least 0) f_self] A) args s 0 0 A) D classes A 8 140 [wd_Md K a_self (a_least 0) s_self] [(0, .ref (a_self 0)), (1, .int v1), (2, .int v2), (3, .int v3)] []) : ∀ (n : Nat) (s_self : Nat → Nat → Int32) (v2 v7 : Int32), l_Md_makeRow_89 N v1 v3 v4 v5 v6 kx140 n s_self v2 v7 = some f_self → Gd p l e rm_Md_makeRow s m args below meth c 0 0 (MQ below (sq D classes (tyK K) none [wd_Md K a_self (a_least 0) f_self] A) args s 0 0 A) D classes A 8 89 [wd_Md K a_self (a_least 0) s_self] [(0, .ref (a_self 0)), (1, .int v1), (2, .int v2), (3, .int v3), (4, .int v4), (5, .int v5), (6, .int v6), (7, .int v7)] [] := by
  intro n
  induction n with
  | zero => intro s_self v2 v7 h; have h : (none : Option ((Nat → Nat → Int32))) = some _ := h; cases h
  | succ n ih =>
    intro s_self v2 v7 h
    exact t_Md_makeRow_89 a_self a_least X hr hlk N f_self s_self v1 v2 v3 v4 v5 v6 v7 (l_Md_makeRow_89 N v1 v3 v4 v5 v6 kx140 n) ih kx140 hkx140 h
def f_Md_makeRow_66 (N : Nat) (kb : (Nat → Nat → Int32) → Int32 → Int32 → Option ((Nat → Nat → Int32))) (kx146 : (Nat → Nat → Int32) → Int32 → Option ((Nat → Nat → Int32))) (s_self : Nat → Nat → Int32) (v1 v2 v3 v4 : Int32) (k0 : Int32) : Option ((Nat → Nat → Int32)) :=
  if v4 < 0 then
    ck k0 200 <|
    nm (s_self 21 (Int32.toNatClampNeg k0)) fun v6_3 =>
    l_Md_makeRow_89 N v1 v3 v4 k0 v6_3 (fun s_self v2 => f_Md_makeRow_140 N kb kx146 s_self v1 v2 v3) N s_self v2 0
  else
    l_Md_makeRow_89 N v1 v3 v4 k0 1 (fun s_self v2 => f_Md_makeRow_140 N kb kx146 s_self v1 v2 v3) N s_self v2 0
set_option maxHeartbeats 4000000 in
set_option maxRecDepth 100000 in
theorem t_Md_makeRow_66 {p : Program} {l : Launch} {e : Env} {s : State} {m : MethodId} {args : Array Value} {below : List Frame} {meth : Method} {c : Code} {A : Nat → Prop} {D : va_G} {K : Nat → ClassId} (a_self a_least : Nat → Nat) (X : gx p s m args c b_Md_makeRow 8 R_Md w_Md_makeRow D classes (tyK K) A) (hr : meth.sig.returnType = none) (hlk : meth.locks = false) (N : Nat) (f_self : Nat → Nat → Int32) (s_self : Nat → Nat → Int32) (v1 v2 v3 v4 : Int32) (k0 : Int32) (kb : (Nat → Nat → Int32) → Int32 → Int32 → Option ((Nat → Nat → Int32))) (hkb : ∀ (s_self : Nat → Nat → Int32) (v2 v3 : Int32), kb s_self v2 v3 = some f_self → Gd p l e rm_Md_makeRow s m args below meth c 0 0 (MQ below (sq D classes (tyK K) none [wd_Md K a_self (a_least 0) f_self] A) args s 0 0 A) D classes A 8 20 [wd_Md K a_self (a_least 0) s_self] [(0, .ref (a_self 0)), (1, .int v1), (2, .int v2), (3, .int v3)] []) (kx146 : (Nat → Nat → Int32) → Int32 → Option ((Nat → Nat → Int32))) (hkx146 : ∀ (s_self : Nat → Nat → Int32) (v2 : Int32), kx146 s_self v2 = some f_self → Gd p l e rm_Md_makeRow s m args below meth c 0 0 (MQ below (sq D classes (tyK K) none [wd_Md K a_self (a_least 0) f_self] A) args s 0 0 A) D classes A 8 146 [wd_Md K a_self (a_least 0) s_self] [(0, .ref (a_self 0)), (1, .int v1), (2, .int v2)] []) (h : f_Md_makeRow_66 N kb kx146 s_self v1 v2 v3 v4 k0 = some f_self) : Gd p l e rm_Md_makeRow s m args below meth c 0 0 (MQ below (sq D classes (tyK K) none [wd_Md K a_self (a_least 0) f_self] A) args s 0 0 A) D classes A 8 66 [wd_Md K a_self (a_least 0) s_self] [(0, .ref (a_self 0)), (1, .int v1), (2, .int v2), (3, .int v3), (4, .int v4)] [.int k0] := by
  unfold f_Md_makeRow_66 at h
  refine gd_istore X (lv' := [(5, .int k0), (0, .ref (a_self 0)), (1, .int v1), (2, .int v2), (3, .int v3), (4, .int v4)]) d_Md_makeRow_66 (by decide) rfl ?_
  refine gd_iload X d_Md_makeRow_68 5 rfl ?_
  refine gd_if_lt X (tgt := 77) d_Md_makeRow_70 (by decide) (fun c_1 => ?_) (fun c_1 => ?_)
  · replace h := it_p c_1 h
    refine gd_aload_n X d_Md_makeRow_77 1 rfl ?_
    refine gd_get X (ci := 7) (C := R_Md) (T := F_Md) (N := 36) (v := .ref (a_self 21)) 0 0 rfl rfl rfl (in_Md _) 32 (by decide) (List.mem_cons_of_mem _ fl_Md_76) rfl rfl d_Md_makeRow_78 ?_
    refine gd_iload X d_Md_makeRow_81 0 rfl ?_
    obtain ⟨hi_2, h⟩ := ck_e h
    refine gd_iald X 0 21 0 rfl rfl rfl hi_2 d_Md_makeRow_83 ?_
    obtain ⟨v6_3, ev6_3, h⟩ := nm_e' h
    refine gd_topi ev6_3 ?_
    refine gd_istore X (lv' := [(6, .int v6_3), (5, .int k0), (0, .ref (a_self 0)), (1, .int v1), (2, .int v2), (3, .int v3), (4, .int v4)]) d_Md_makeRow_84 (by decide) rfl ?_
    refine gd_iconst X (v := 0) d_Md_makeRow_86 (by decide) ?_
    refine gd_istore X (lv' := [(7, .int 0), (6, .int v6_3), (5, .int k0), (0, .ref (a_self 0)), (1, .int v1), (2, .int v2), (3, .int v3), (4, .int v4)]) d_Md_makeRow_87 (by decide) rfl ?_
    refine gd_loc (lv' := [(0, .ref (a_self 0)), (1, .int v1), (2, .int v2), (3, .int v3), (4, .int v4), (5, .int k0), (6, .int v6_3), (7, .int 0)]) [3, 4, 5, 6, 7, 2, 1, 0] rfl ?_
    exact tl_Md_makeRow_89 a_self a_least X hr hlk N f_self v1 v3 v4 k0 v6_3 (fun s_self v2 => f_Md_makeRow_140 N kb kx146 s_self v1 v2 v3) (fun s_self v2 h => t_Md_makeRow_140 a_self a_least X hr hlk N f_self s_self v1 v2 v3 kb hkb kx146 hkx146 h) N s_self v2 0 h
  · replace h := it_n c_1 h
    refine gd_iconst X (v := 1) d_Md_makeRow_73 (by decide) ?_
    refine gd_goto X (tgt := 84) d_Md_makeRow_74 (by decide) ?_
    refine gd_istore X (lv' := [(6, .int 1), (5, .int k0), (0, .ref (a_self 0)), (1, .int v1), (2, .int v2), (3, .int v3), (4, .int v4)]) d_Md_makeRow_84 (by decide) rfl ?_
    refine gd_iconst X (v := 0) d_Md_makeRow_86 (by decide) ?_
    refine gd_istore X (lv' := [(7, .int 0), (6, .int 1), (5, .int k0), (0, .ref (a_self 0)), (1, .int v1), (2, .int v2), (3, .int v3), (4, .int v4)]) d_Md_makeRow_87 (by decide) rfl ?_
    refine gd_loc (lv' := [(0, .ref (a_self 0)), (1, .int v1), (2, .int v2), (3, .int v3), (4, .int v4), (5, .int k0), (6, .int 1), (7, .int 0)]) [3, 4, 5, 6, 7, 2, 1, 0] rfl ?_
    exact tl_Md_makeRow_89 a_self a_least X hr hlk N f_self v1 v3 v4 k0 1 (fun s_self v2 => f_Md_makeRow_140 N kb kx146 s_self v1 v2 v3) (fun s_self v2 h => t_Md_makeRow_140 a_self a_least X hr hlk N f_self s_self v1 v2 v3 kb hkb kx146 hkx146 h) N s_self v2 0 h
def f_Md_makeRow_20 (N : Nat) (kb : (Nat → Nat → Int32) → Int32 → Int32 → Option ((Nat → Nat → Int32))) (kx146 : (Nat → Nat → Int32) → Int32 → Option ((Nat → Nat → Int32))) (s_self : Nat → Nat → Int32) (v1 v2 v3 : Int32) : Option ((Nat → Nat → Int32)) :=
  ck v1 31 <|
  if (s_self 3 (Int32.toNatClampNeg v1)) ≤ v3 then
    kx146 s_self v2
  else
    ck ((8 * v1) + v3) 248 <|
    nm (s_self 4 (Int32.toNatClampNeg ((8 * v1) + v3))) fun v4_4 =>
    if v4_4 < 0 then
      bd1 (m_Md_rankOf N s_self v1 v4_4) fun r_6 =>
      f_Md_makeRow_66 N kb kx146 s_self v1 v2 v3 v4_4 (((s_self 0 33) - 1) - r_6)
    else
      f_Md_makeRow_66 N kb kx146 s_self v1 v2 v3 v4_4 0
set_option maxHeartbeats 4000000 in
set_option maxRecDepth 100000 in
theorem t_Md_makeRow_20 {p : Program} {l : Launch} {e : Env} {s : State} {m : MethodId} {args : Array Value} {below : List Frame} {meth : Method} {c : Code} {A : Nat → Prop} {D : va_G} {K : Nat → ClassId} (a_self a_least : Nat → Nat) (X : gx p s m args c b_Md_makeRow 8 R_Md w_Md_makeRow D classes (tyK K) A) (hr : meth.sig.returnType = none) (hlk : meth.locks = false) (N : Nat) (f_self : Nat → Nat → Int32) (s_self : Nat → Nat → Int32) (v1 v2 v3 : Int32) (kb : (Nat → Nat → Int32) → Int32 → Int32 → Option ((Nat → Nat → Int32))) (hkb : ∀ (s_self : Nat → Nat → Int32) (v2 v3 : Int32), kb s_self v2 v3 = some f_self → Gd p l e rm_Md_makeRow s m args below meth c 0 0 (MQ below (sq D classes (tyK K) none [wd_Md K a_self (a_least 0) f_self] A) args s 0 0 A) D classes A 8 20 [wd_Md K a_self (a_least 0) s_self] [(0, .ref (a_self 0)), (1, .int v1), (2, .int v2), (3, .int v3)] []) (kx146 : (Nat → Nat → Int32) → Int32 → Option ((Nat → Nat → Int32))) (hkx146 : ∀ (s_self : Nat → Nat → Int32) (v2 : Int32), kx146 s_self v2 = some f_self → Gd p l e rm_Md_makeRow s m args below meth c 0 0 (MQ below (sq D classes (tyK K) none [wd_Md K a_self (a_least 0) f_self] A) args s 0 0 A) D classes A 8 146 [wd_Md K a_self (a_least 0) s_self] [(0, .ref (a_self 0)), (1, .int v1), (2, .int v2)] []) (h : f_Md_makeRow_20 N kb kx146 s_self v1 v2 v3 = some f_self) : Gd p l e rm_Md_makeRow s m args below meth c 0 0 (MQ below (sq D classes (tyK K) none [wd_Md K a_self (a_least 0) f_self] A) args s 0 0 A) D classes A 8 20 [wd_Md K a_self (a_least 0) s_self] [(0, .ref (a_self 0)), (1, .int v1), (2, .int v2), (3, .int v3)] [] := by
  unfold f_Md_makeRow_20 at h
  refine gd_iload_n X d_Md_makeRow_20 3 rfl ?_
  refine gd_aload_n X d_Md_makeRow_21 0 rfl ?_
  refine gd_get X (ci := 7) (C := R_Md) (T := F_Md) (N := 36) (v := .ref (a_self 3)) 0 0 rfl rfl rfl (in_Md _) 7 (by decide) (List.mem_cons_of_mem _ fl_Md_16) rfl rfl d_Md_makeRow_22 ?_
  refine gd_iload_n X d_Md_makeRow_25 1 rfl ?_
  obtain ⟨hi_1, h⟩ := ck_e h
  refine gd_iald X 0 3 0 rfl rfl rfl hi_1 d_Md_makeRow_26 ?_
  refine gd_icmp_ge X (tgt := 146) d_Md_makeRow_27 (by decide) (fun c_2 => ?_) (fun c_2 => ?_)
  · replace h := it_p c_2 h
    refine gd_loc (lv' := [(0, .ref (a_self 0)), (1, .int v1), (2, .int v2)]) [0, 1, 2] rfl ?_
    exact hkx146 s_self v2 h
  · replace h := it_n c_2 h
    refine gd_aload_n X d_Md_makeRow_30 0 rfl ?_
    refine gd_get X (ci := 7) (C := R_Md) (T := F_Md) (N := 36) (v := .ref (a_self 4)) 0 0 rfl rfl rfl (in_Md _) 8 (by decide) (List.mem_cons_of_mem _ fl_Md_19) rfl rfl d_Md_makeRow_31 ?_
    refine gd_bipush X (v := 8) d_Md_makeRow_34 (by decide) ?_
    refine gd_iload_n X d_Md_makeRow_36 1 rfl ?_
    refine gd_imul X d_Md_makeRow_37 ?_
    refine gd_iload_n X d_Md_makeRow_38 3 rfl ?_
    refine gd_iadd X d_Md_makeRow_39 ?_
    obtain ⟨hi_3, h⟩ := ck_e h
    refine gd_iald X 0 4 0 rfl rfl rfl hi_3 d_Md_makeRow_40 ?_
    obtain ⟨v4_4, ev4_4, h⟩ := nm_e' h
    refine gd_topi ev4_4 ?_
    refine gd_istore X (lv' := [(4, .int v4_4), (0, .ref (a_self 0)), (1, .int v1), (2, .int v2), (3, .int v3)]) d_Md_makeRow_41 (by decide) rfl ?_
    refine gd_iload X d_Md_makeRow_43 0 rfl ?_
    refine gd_if_lt X (tgt := 52) d_Md_makeRow_45 (by decide) (fun c_5 => ?_) (fun c_5 => ?_)
    · replace h := it_p c_5 h
      refine gd_aload_n X d_Md_makeRow_52 1 rfl ?_
      refine gd_get X (ci := 7) (C := R_Md) (T := F_Md) (N := 36) (v := .int (s_self 0 33)) 0 0 rfl rfl rfl (in_Md _) 33 (by decide) (List.mem_cons_of_mem _ fl_Md_207) rfl rfl d_Md_makeRow_53 ?_
      refine gd_iconst X (v := 1) d_Md_makeRow_56 (by decide) ?_
      refine gd_isub X d_Md_makeRow_57 ?_
      refine gd_aload_n X d_Md_makeRow_58 1 rfl ?_
      refine gd_iload_n X d_Md_makeRow_59 2 rfl ?_
      refine gd_iload X d_Md_makeRow_60 0 rfl ?_
      obtain ⟨r_6, hc_7, h⟩ := bd1_e h
      refine gd_fI X (gd_V X (As := [.int v1, .int v4_4]) (rest := [.int ((s_self 0 33) - 1)]) (c_Md_rankOf l D K a_self a_least N s_self v1 v4_4 r_6 hc_7) 2 (gi_V ml_Md_210 u_Md_rankOf) rfl ⟨rfl, rfl⟩ (by decide +kernel) ⟨by decide, by decide⟩ (ci := 7) rfl rfl rfl rfl rfl rfl (Nat.le_of_ble_eq_true rfl) ⟨Nat.zero_le _, Nat.zero_le _⟩ d_Md_makeRow_62) ?_
      refine gd_isub X d_Md_makeRow_65 ?_
      refine gd_loc (lv' := [(0, .ref (a_self 0)), (1, .int v1), (2, .int v2), (3, .int v3), (4, .int v4_4)]) [1, 2, 3, 4, 0] rfl ?_
      exact t_Md_makeRow_66 a_self a_least X hr hlk N f_self s_self v1 v2 v3 v4_4 (((s_self 0 33) - 1) - r_6) kb hkb kx146 hkx146 h
    · replace h := it_n c_5 h
      refine gd_iconst X (v := 0) d_Md_makeRow_48 (by decide) ?_
      refine gd_goto X (tgt := 66) d_Md_makeRow_49 (by decide) ?_
      refine gd_loc (lv' := [(0, .ref (a_self 0)), (1, .int v1), (2, .int v2), (3, .int v3), (4, .int v4_4)]) [1, 2, 3, 4, 0] rfl ?_
      exact t_Md_makeRow_66 a_self a_least X hr hlk N f_self s_self v1 v2 v3 v4_4 0 kb hkb kx146 hkx146 h
def f_Md_makeRow_172 (N : Nat) (kb : (Nat → Nat → Int32) → Int32 → Option ((Nat → Nat → Int32))) (kx203 : (Nat → Nat → Int32) → Option ((Nat → Nat → Int32))) (s_self : Nat → Nat → Int32) (v2 v3 : Int32) : Option ((Nat → Nat → Int32)) :=
  if v2 ≤ v3 then
    kx203 s_self
  else
    ck v3 13 <|
    ck ((13 * (s_self 0 33)) + v3) 2600 <| nm (st2 s_self 20 (Int32.toNatClampNeg ((13 * (s_self 0 33)) + v3)) (s_self 22 (Int32.toNatClampNeg v3))) fun s_self_4 =>
    nm (v3 + 1) fun v3_5 =>
    kb s_self_4 v3_5
set_option maxHeartbeats 4000000 in
set_option maxRecDepth 100000 in
theorem t_Md_makeRow_172 {p : Program} {l : Launch} {e : Env} {s : State} {m : MethodId} {args : Array Value} {below : List Frame} {meth : Method} {c : Code} {A : Nat → Prop} {D : va_G} {K : Nat → ClassId} (a_self a_least : Nat → Nat) (X : gx p s m args c b_Md_makeRow 8 R_Md w_Md_makeRow D classes (tyK K) A) (hr : meth.sig.returnType = none) (hlk : meth.locks = false) (N : Nat) (f_self : Nat → Nat → Int32) (s_self : Nat → Nat → Int32) (v2 v3 : Int32) (kb : (Nat → Nat → Int32) → Int32 → Option ((Nat → Nat → Int32))) (hkb : ∀ (s_self : Nat → Nat → Int32) (v3 : Int32), kb s_self v3 = some f_self → Gd p l e rm_Md_makeRow s m args below meth c 0 0 (MQ below (sq D classes (tyK K) none [wd_Md K a_self (a_least 0) f_self] A) args s 0 0 A) D classes A 8 172 [wd_Md K a_self (a_least 0) s_self] [(0, .ref (a_self 0)), (2, .int v2), (3, .int v3)] []) (kx203 : (Nat → Nat → Int32) → Option ((Nat → Nat → Int32))) (hkx203 : ∀ (s_self : Nat → Nat → Int32), kx203 s_self = some f_self → Gd p l e rm_Md_makeRow s m args below meth c 0 0 (MQ below (sq D classes (tyK K) none [wd_Md K a_self (a_least 0) f_self] A) args s 0 0 A) D classes A 8 203 [wd_Md K a_self (a_least 0) s_self] [(0, .ref (a_self 0))] []) (h : f_Md_makeRow_172 N kb kx203 s_self v2 v3 = some f_self) : Gd p l e rm_Md_makeRow s m args below meth c 0 0 (MQ below (sq D classes (tyK K) none [wd_Md K a_self (a_least 0) f_self] A) args s 0 0 A) D classes A 8 172 [wd_Md K a_self (a_least 0) s_self] [(0, .ref (a_self 0)), (2, .int v2), (3, .int v3)] [] := by
  unfold f_Md_makeRow_172 at h
  refine gd_iload_n X d_Md_makeRow_172 2 rfl ?_
  refine gd_iload_n X d_Md_makeRow_173 1 rfl ?_
  refine gd_icmp_ge X (tgt := 203) d_Md_makeRow_174 (by decide) (fun c_1 => ?_) (fun c_1 => ?_)
  · replace h := it_p c_1 h
    refine gd_loc (lv' := [(0, .ref (a_self 0))]) [0] rfl ?_
    exact hkx203 s_self h
  · replace h := it_n c_1 h
    refine gd_aload_n X d_Md_makeRow_177 0 rfl ?_
    refine gd_get X (ci := 7) (C := R_Md) (T := F_Md) (N := 36) (v := .ref (a_self 20)) 0 0 rfl rfl rfl (in_Md _) 31 (by decide) (List.mem_cons_of_mem _ fl_Md_73) rfl rfl d_Md_makeRow_178 ?_
    refine gd_bipush X (v := 13) d_Md_makeRow_181 (by decide) ?_
    refine gd_aload_n X d_Md_makeRow_183 0 rfl ?_
    refine gd_get X (ci := 7) (C := R_Md) (T := F_Md) (N := 36) (v := .int (s_self 0 33)) 0 0 rfl rfl rfl (in_Md _) 33 (by decide) (List.mem_cons_of_mem _ fl_Md_207) rfl rfl d_Md_makeRow_184 ?_
    refine gd_imul X d_Md_makeRow_187 ?_
    refine gd_iload_n X d_Md_makeRow_188 2 rfl ?_
    refine gd_iadd X d_Md_makeRow_189 ?_
    refine gd_aload_n X d_Md_makeRow_190 0 rfl ?_
    refine gd_get X (ci := 7) (C := R_Md) (T := F_Md) (N := 36) (v := .ref (a_self 22)) 0 0 rfl rfl rfl (in_Md _) 34 (by decide) (List.mem_cons_of_mem _ fl_Md_79) rfl rfl d_Md_makeRow_191 ?_
    refine gd_iload_n X d_Md_makeRow_194 2 rfl ?_
    obtain ⟨hi_2, h⟩ := ck_e h
    refine gd_iald X 0 22 0 rfl rfl rfl hi_2 d_Md_makeRow_195 ?_
    obtain ⟨hi_3, h⟩ := ck_e h
    obtain ⟨s_self_4, es_self_4, h⟩ := nm_e' h
    refine gd_iast X (w' := [wd_Md K a_self (a_least 0) s_self_4]) 0 20 0 rfl rfl rfl hi_3 d_Md_makeRow_196 (by rw [es_self_4]; rfl) ?_
    obtain ⟨v3_5, ev3_5, h⟩ := nm_e' h
    refine gd_iinc X (v := v3_5) (lv' := [(3, .int v3_5), (0, .ref (a_self 0)), (2, .int v2)]) d_Md_makeRow_197 (k := 2) rfl (by rw [ev3_5]; rfl) (by decide) rfl ?_
    refine gd_goto X (tgt := 172) d_Md_makeRow_200 (by decide) ?_
    refine gd_loc (lv' := [(0, .ref (a_self 0)), (2, .int v2), (3, .int v3_5)]) [1, 2, 0] rfl ?_
    exact hkb s_self_4 v3_5 h
def f_Md_makeRow_203 (N : Nat) (s_self : Nat → Nat → Int32) : Option ((Nat → Nat → Int32)) :=
  nm (st2 s_self 0 33 ((s_self 0 33) + 1)) fun s_self_1 =>
  some s_self_1
set_option maxHeartbeats 4000000 in
set_option maxRecDepth 100000 in
theorem t_Md_makeRow_203 {p : Program} {l : Launch} {e : Env} {s : State} {m : MethodId} {args : Array Value} {below : List Frame} {meth : Method} {c : Code} {A : Nat → Prop} {D : va_G} {K : Nat → ClassId} (a_self a_least : Nat → Nat) (X : gx p s m args c b_Md_makeRow 8 R_Md w_Md_makeRow D classes (tyK K) A) (hr : meth.sig.returnType = none) (hlk : meth.locks = false) (N : Nat) (f_self : Nat → Nat → Int32) (s_self : Nat → Nat → Int32) (h : f_Md_makeRow_203 N s_self = some f_self) : Gd p l e rm_Md_makeRow s m args below meth c 0 0 (MQ below (sq D classes (tyK K) none [wd_Md K a_self (a_least 0) f_self] A) args s 0 0 A) D classes A 8 203 [wd_Md K a_self (a_least 0) s_self] [(0, .ref (a_self 0))] [] := by
  unfold f_Md_makeRow_203 at h
  refine gd_aload_n X d_Md_makeRow_203 0 rfl ?_
  refine gd_dup X d_Md_makeRow_204 rfl ?_
  refine gd_get X (ci := 7) (C := R_Md) (T := F_Md) (N := 36) (v := .int (s_self 0 33)) 0 0 rfl rfl rfl (in_Md _) 33 (by decide) (List.mem_cons_of_mem _ fl_Md_207) rfl rfl d_Md_makeRow_205 ?_
  refine gd_iconst X (v := 1) d_Md_makeRow_208 (by decide) ?_
  refine gd_iadd X d_Md_makeRow_209 ?_
  obtain ⟨s_self_1, es_self_1, h⟩ := nm_e' h
  refine gd_put X (ci := 7) (C := R_Md) (T := F_Md) (N := 36) (ty := .int) (w' := [wd_Md K a_self (a_least 0) s_self_1]) 0 0 rfl rfl rfl (in_Md _) t_Md t_Md_ok n_Md 33 (by decide) (List.mem_cons_of_mem _ fl_Md_207) rfl rfl (by decide +kernel) rfl rfl (Nat.le_of_ble_eq_true rfl) d_Md_makeRow_210 (by rw [es_self_1]; rfl) ?_
  cases h
  exact gd_vret X hr hlk d_Md_makeRow_213
def l_Md_makeRow_172 (N : Nat) (v2 : Int32) (kx203 : (Nat → Nat → Int32) → Option ((Nat → Nat → Int32))) : Nat → (Nat → Nat → Int32) → Int32 → Option ((Nat → Nat → Int32))
  | 0, _, _ => none
  | n + 1, s_self, v3 => f_Md_makeRow_172 N (l_Md_makeRow_172 N v2 kx203 n) kx203 s_self v2 v3
set_option maxHeartbeats 4000000 in
set_option maxRecDepth 100000 in
theorem tl_Md_makeRow_172 {p : Program} {l : Launch} {e : Env} {s : State} {m : MethodId} {args : Array Value} {below : List Frame} {meth : Method} {c : Code} {A : Nat → Prop} {D : va_G} {K : Nat → ClassId} (a_self a_least : Nat → Nat) (X : gx p s m args c b_Md_makeRow 8 R_Md w_Md_makeRow D classes (tyK K) A) (hr : meth.sig.returnType = none) (hlk : meth.locks = false) (N : Nat) (f_self : Nat → Nat → Int32) (v2 : Int32) (kx203 : (Nat → Nat → Int32) → Option ((Nat → Nat → Int32))) (hkx203 : ∀ (s_self : Nat → Nat → Int32), kx203 s_self = some f_self → Gd p l e rm_Md_makeRow s m args below meth c 0 0 (MQ below (sq D classes (tyK K) none [wd_Md K a_self (a_least 0) f_self] A) args s 0 0 A) D classes A 8 203 [wd_Md K a_self (a_least 0) s_self] [(0, .ref (a_self 0))] []) : ∀ (n : Nat) (s_self : Nat → Nat → Int32) (v3 : Int32), l_Md_makeRow_172 N v2 kx203 n s_self v3 = some f_self → Gd p l e rm_Md_makeRow s m args below meth c 0 0 (MQ below (sq D classes (tyK K) none [wd_Md K a_self (a_least 0) f_self] A) args s 0 0 A) D classes A 8 172 [wd_Md K a_self (a_least 0) s_self] [(0, .ref (a_self 0)), (2, .int v2), (3, .int v3)] [] := by
  intro n
  induction n with
  | zero => intro s_self v3 h; have h : (none : Option ((Nat → Nat → Int32))) = some _ := h; cases h
  | succ n ih =>
    intro s_self v3 h
    exact t_Md_makeRow_172 a_self a_least X hr hlk N f_self s_self v2 v3 (l_Md_makeRow_172 N v2 kx203 n) ih kx203 hkx203 h
def f_Md_makeRow_146 (N : Nat) (s_self : Nat → Nat → Int32) (v1 v2 : Int32) : Option ((Nat → Nat → Int32)) :=
  bd1 (m_Md_differentIn N s_self v1) fun r_1 =>
  nm (st2 s_self 0 33 ((s_self 0 33) - r_1)) fun s_self_3 =>
  ck (s_self_3 0 33) 200 <| nm (st2 s_self_3 21 (Int32.toNatClampNeg (s_self_3 0 33)) v2) fun s_self_5 =>
  l_Md_makeRow_172 N v2 (fun s_self => f_Md_makeRow_203 N s_self) N s_self_5 0
set_option maxHeartbeats 4000000 in
set_option maxRecDepth 100000 in
theorem t_Md_makeRow_146 {p : Program} {l : Launch} {e : Env} {s : State} {m : MethodId} {args : Array Value} {below : List Frame} {meth : Method} {c : Code} {A : Nat → Prop} {D : va_G} {K : Nat → ClassId} (a_self a_least : Nat → Nat) (X : gx p s m args c b_Md_makeRow 8 R_Md w_Md_makeRow D classes (tyK K) A) (hr : meth.sig.returnType = none) (hlk : meth.locks = false) (N : Nat) (f_self : Nat → Nat → Int32) (s_self : Nat → Nat → Int32) (v1 v2 : Int32) (h : f_Md_makeRow_146 N s_self v1 v2 = some f_self) : Gd p l e rm_Md_makeRow s m args below meth c 0 0 (MQ below (sq D classes (tyK K) none [wd_Md K a_self (a_least 0) f_self] A) args s 0 0 A) D classes A 8 146 [wd_Md K a_self (a_least 0) s_self] [(0, .ref (a_self 0)), (1, .int v1), (2, .int v2)] [] := by
  unfold f_Md_makeRow_146 at h
  refine gd_aload_n X d_Md_makeRow_146 0 rfl ?_
  refine gd_aload_n X d_Md_makeRow_147 0 rfl ?_
  refine gd_get X (ci := 7) (C := R_Md) (T := F_Md) (N := 36) (v := .int (s_self 0 33)) 0 0 rfl rfl rfl (in_Md _) 33 (by decide) (List.mem_cons_of_mem _ fl_Md_207) rfl rfl d_Md_makeRow_148 ?_
  refine gd_aload_n X d_Md_makeRow_151 0 rfl ?_
  refine gd_iload_n X d_Md_makeRow_152 1 rfl ?_
  obtain ⟨r_1, hc_2, h⟩ := bd1_e h
  refine gd_fI X (gd_V X (As := [.int v1]) (rest := [.int (s_self 0 33), .ref (a_self 0)]) (c_Md_differentIn l D K a_self a_least N s_self v1 r_1 hc_2) 1 (gi_V ml_Md_213 u_Md_differentIn) rfl ⟨rfl, rfl⟩ (by decide +kernel) ⟨by decide, by decide⟩ (ci := 7) rfl rfl rfl rfl rfl rfl (Nat.le_of_ble_eq_true rfl) ⟨Nat.zero_le _, Nat.zero_le _⟩ d_Md_makeRow_153) ?_
  refine gd_isub X d_Md_makeRow_156 ?_
  obtain ⟨s_self_3, es_self_3, h⟩ := nm_e' h
  refine gd_put X (ci := 7) (C := R_Md) (T := F_Md) (N := 36) (ty := .int) (w' := [wd_Md K a_self (a_least 0) s_self_3]) 0 0 rfl rfl rfl (in_Md _) t_Md t_Md_ok n_Md 33 (by decide) (List.mem_cons_of_mem _ fl_Md_207) rfl rfl (by decide +kernel) rfl rfl (Nat.le_of_ble_eq_true rfl) d_Md_makeRow_157 (by rw [es_self_3]; rfl) ?_
  refine gd_aload_n X d_Md_makeRow_160 0 rfl ?_
  refine gd_get X (ci := 7) (C := R_Md) (T := F_Md) (N := 36) (v := .ref (a_self 21)) 0 0 rfl rfl rfl (in_Md _) 32 (by decide) (List.mem_cons_of_mem _ fl_Md_76) rfl rfl d_Md_makeRow_161 ?_
  refine gd_aload_n X d_Md_makeRow_164 0 rfl ?_
  refine gd_get X (ci := 7) (C := R_Md) (T := F_Md) (N := 36) (v := .int (s_self_3 0 33)) 0 0 rfl rfl rfl (in_Md _) 33 (by decide) (List.mem_cons_of_mem _ fl_Md_207) rfl rfl d_Md_makeRow_165 ?_
  refine gd_iload_n X d_Md_makeRow_168 2 rfl ?_
  obtain ⟨hi_4, h⟩ := ck_e h
  obtain ⟨s_self_5, es_self_5, h⟩ := nm_e' h
  refine gd_iast X (w' := [wd_Md K a_self (a_least 0) s_self_5]) 0 21 0 rfl rfl rfl hi_4 d_Md_makeRow_169 (by rw [es_self_5]; rfl) ?_
  refine gd_iconst X (v := 0) d_Md_makeRow_170 (by decide) ?_
  refine gd_istore_n X (lv' := [(3, .int 0), (0, .ref (a_self 0)), (1, .int v1), (2, .int v2)]) d_Md_makeRow_171 rfl (by decide) rfl ?_
  refine gd_loc (lv' := [(0, .ref (a_self 0)), (2, .int v2), (3, .int 0)]) [1, 3, 0] rfl ?_
  exact tl_Md_makeRow_172 a_self a_least X hr hlk N f_self v2 (fun s_self => f_Md_makeRow_203 N s_self) (fun s_self h => t_Md_makeRow_203 a_self a_least X hr hlk N f_self s_self h) N s_self_5 0 h
def l_Md_makeRow_20 (N : Nat) (v1 : Int32) (kx146 : (Nat → Nat → Int32) → Int32 → Option ((Nat → Nat → Int32))) : Nat → (Nat → Nat → Int32) → Int32 → Int32 → Option ((Nat → Nat → Int32))
  | 0, _, _, _ => none
  | n + 1, s_self, v2, v3 => f_Md_makeRow_20 N (l_Md_makeRow_20 N v1 kx146 n) kx146 s_self v1 v2 v3
set_option maxHeartbeats 4000000 in
set_option maxRecDepth 100000 in
theorem tl_Md_makeRow_20 {p : Program} {l : Launch} {e : Env} {s : State} {m : MethodId} {args : Array Value} {below : List Frame} {meth : Method} {c : Code} {A : Nat → Prop} {D : va_G} {K : Nat → ClassId} (a_self a_least : Nat → Nat) (X : gx p s m args c b_Md_makeRow 8 R_Md w_Md_makeRow D classes (tyK K) A) (hr : meth.sig.returnType = none) (hlk : meth.locks = false) (N : Nat) (f_self : Nat → Nat → Int32) (v1 : Int32) (kx146 : (Nat → Nat → Int32) → Int32 → Option ((Nat → Nat → Int32))) (hkx146 : ∀ (s_self : Nat → Nat → Int32) (v2 : Int32), kx146 s_self v2 = some f_self → Gd p l e rm_Md_makeRow s m args below meth c 0 0 (MQ below (sq D classes (tyK K) none [wd_Md K a_self (a_least 0) f_self] A) args s 0 0 A) D classes A 8 146 [wd_Md K a_self (a_least 0) s_self] [(0, .ref (a_self 0)), (1, .int v1), (2, .int v2)] []) : ∀ (n : Nat) (s_self : Nat → Nat → Int32) (v2 v3 : Int32), l_Md_makeRow_20 N v1 kx146 n s_self v2 v3 = some f_self → Gd p l e rm_Md_makeRow s m args below meth c 0 0 (MQ below (sq D classes (tyK K) none [wd_Md K a_self (a_least 0) f_self] A) args s 0 0 A) D classes A 8 20 [wd_Md K a_self (a_least 0) s_self] [(0, .ref (a_self 0)), (1, .int v1), (2, .int v2), (3, .int v3)] [] := by
  intro n
  induction n with
  | zero => intro s_self v2 v3 h; have h : (none : Option ((Nat → Nat → Int32))) = some _ := h; cases h
  | succ n ih =>
    intro s_self v2 v3 h
    exact t_Md_makeRow_20 a_self a_least X hr hlk N f_self s_self v1 v2 v3 (l_Md_makeRow_20 N v1 kx146 n) ih kx146 hkx146 h
def f_Md_makeRow_0 (N : Nat) (s_self : Nat → Nat → Int32) (v1 : Int32) : Option ((Nat → Nat → Int32)) :=
  if 0 ≤ v1 then
    l_Md_makeRow_20 N v1 (fun s_self v2 => f_Md_makeRow_146 N s_self v1 v2) N s_self 0 0
  else
    ck 0 13 <| nm (st2 s_self 22 (Int32.toNatClampNeg 0) v1) fun s_self_3 =>
    ck (s_self_3 0 33) 200 <| nm (st2 s_self_3 21 (Int32.toNatClampNeg (s_self_3 0 33)) 1) fun s_self_5 =>
    l_Md_makeRow_172 N 1 (fun s_self => f_Md_makeRow_203 N s_self) N s_self_5 0
set_option maxHeartbeats 4000000 in
set_option maxRecDepth 100000 in
theorem t_Md_makeRow_0 {p : Program} {l : Launch} {e : Env} {s : State} {m : MethodId} {args : Array Value} {below : List Frame} {meth : Method} {c : Code} {A : Nat → Prop} {D : va_G} {K : Nat → ClassId} (a_self a_least : Nat → Nat) (X : gx p s m args c b_Md_makeRow 8 R_Md w_Md_makeRow D classes (tyK K) A) (hr : meth.sig.returnType = none) (hlk : meth.locks = false) (N : Nat) (f_self : Nat → Nat → Int32) (s_self : Nat → Nat → Int32) (v1 : Int32) (h : f_Md_makeRow_0 N s_self v1 = some f_self) : Gd p l e rm_Md_makeRow s m args below meth c 0 0 (MQ below (sq D classes (tyK K) none [wd_Md K a_self (a_least 0) f_self] A) args s 0 0 A) D classes A 8 0 [wd_Md K a_self (a_least 0) s_self] [(0, .ref (a_self 0)), (1, .int v1)] [] := by
  unfold f_Md_makeRow_0 at h
  refine gd_iconst X (v := 0) d_Md_makeRow_0 (by decide) ?_
  refine gd_istore_n X (lv' := [(2, .int 0), (0, .ref (a_self 0)), (1, .int v1)]) d_Md_makeRow_1 rfl (by decide) rfl ?_
  refine gd_iload_n X d_Md_makeRow_2 2 rfl ?_
  refine gd_if_ge X (tgt := 18) d_Md_makeRow_3 (by decide) (fun c_1 => ?_) (fun c_1 => ?_)
  · replace h := it_p c_1 h
    refine gd_iconst X (v := 0) d_Md_makeRow_18 (by decide) ?_
    refine gd_istore_n X (lv' := [(3, .int 0), (2, .int 0), (0, .ref (a_self 0)), (1, .int v1)]) d_Md_makeRow_19 rfl (by decide) rfl ?_
    refine gd_loc (lv' := [(0, .ref (a_self 0)), (1, .int v1), (2, .int 0), (3, .int 0)]) [2, 3, 1, 0] rfl ?_
    exact tl_Md_makeRow_20 a_self a_least X hr hlk N f_self v1 (fun s_self v2 => f_Md_makeRow_146 N s_self v1 v2) (fun s_self v2 h => t_Md_makeRow_146 a_self a_least X hr hlk N f_self s_self v1 v2 h) N s_self 0 0 h
  · replace h := it_n c_1 h
    refine gd_aload_n X d_Md_makeRow_6 1 rfl ?_
    refine gd_get X (ci := 7) (C := R_Md) (T := F_Md) (N := 36) (v := .ref (a_self 22)) 0 0 rfl rfl rfl (in_Md _) 34 (by decide) (List.mem_cons_of_mem _ fl_Md_79) rfl rfl d_Md_makeRow_7 ?_
    refine gd_iconst X (v := 0) d_Md_makeRow_10 (by decide) ?_
    refine gd_iload_n X d_Md_makeRow_11 2 rfl ?_
    obtain ⟨hi_2, h⟩ := ck_e h
    obtain ⟨s_self_3, es_self_3, h⟩ := nm_e' h
    refine gd_iast X (w' := [wd_Md K a_self (a_least 0) s_self_3]) 0 22 0 rfl rfl rfl hi_2 d_Md_makeRow_12 (by rw [es_self_3]; rfl) ?_
    refine gd_iconst X (v := 1) d_Md_makeRow_13 (by decide) ?_
    refine gd_istore_n X (lv' := [(2, .int 1), (0, .ref (a_self 0)), (1, .int v1)]) d_Md_makeRow_14 rfl (by decide) rfl ?_
    refine gd_goto X (tgt := 160) d_Md_makeRow_15 (by decide) ?_
    refine gd_aload_n X d_Md_makeRow_160 1 rfl ?_
    refine gd_get X (ci := 7) (C := R_Md) (T := F_Md) (N := 36) (v := .ref (a_self 21)) 0 0 rfl rfl rfl (in_Md _) 32 (by decide) (List.mem_cons_of_mem _ fl_Md_76) rfl rfl d_Md_makeRow_161 ?_
    refine gd_aload_n X d_Md_makeRow_164 1 rfl ?_
    refine gd_get X (ci := 7) (C := R_Md) (T := F_Md) (N := 36) (v := .int (s_self_3 0 33)) 0 0 rfl rfl rfl (in_Md _) 33 (by decide) (List.mem_cons_of_mem _ fl_Md_207) rfl rfl d_Md_makeRow_165 ?_
    refine gd_iload_n X d_Md_makeRow_168 0 rfl ?_
    obtain ⟨hi_4, h⟩ := ck_e h
    obtain ⟨s_self_5, es_self_5, h⟩ := nm_e' h
    refine gd_iast X (w' := [wd_Md K a_self (a_least 0) s_self_5]) 0 21 0 rfl rfl rfl hi_4 d_Md_makeRow_169 (by rw [es_self_5]; rfl) ?_
    refine gd_iconst X (v := 0) d_Md_makeRow_170 (by decide) ?_
    refine gd_istore_n X (lv' := [(3, .int 0), (2, .int 1), (0, .ref (a_self 0)), (1, .int v1)]) d_Md_makeRow_171 rfl (by decide) rfl ?_
    refine gd_loc (lv' := [(0, .ref (a_self 0)), (2, .int 1), (3, .int 0)]) [2, 1, 0] rfl ?_
    exact tl_Md_makeRow_172 a_self a_least X hr hlk N f_self 1 (fun s_self => f_Md_makeRow_203 N s_self) (fun s_self h => t_Md_makeRow_203 a_self a_least X hr hlk N f_self s_self h) N s_self_5 0 h
def m_Md_makeRow (N : Nat) (s_self : Nat → Nat → Int32) (v1 : Int32) : Option ((Nat → Nat → Int32)) := f_Md_makeRow_0 N s_self v1
set_option maxHeartbeats 4000000 in
set_option maxRecDepth 100000 in
theorem c_Md_makeRow (l : Launch) (D : va_G) (K : Nat → ClassId) (a_self a_least : Nat → Nat) (N : Nat) (s_self : Nat → Nat → Int32) (v1 : Int32) (f_self : Nat → Nat → Int32) (h : m_Md_makeRow N s_self v1 = some f_self) : SMet l y_Md_makeRow w_Md_makeRow rm_Md_makeRow D classes (tyK K) [.ref (a_self 0), .int v1] none [wd_Md K a_self (a_least 0) s_self] [wd_Md K a_self (a_least 0) f_self] := by
  refine sm_of R_Md (by decide) rfl rfl (Nat.le_of_ble_eq_true rfl) ?_
  intro p e s m below meth c A X hr hlk
  refine gd_loc (lv' := [(0, .ref (a_self 0)), (1, .int v1)]) [0, 1] rfl ?_
  exact t_Md_makeRow_0 a_self a_least X hr hlk N f_self s_self v1 h
