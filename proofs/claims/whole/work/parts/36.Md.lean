abbrev b_Md_comesUpon : ByteArray := prog_10_method_23_code
def y_Md_comesUpon : MethodName := ⟨R_Md, "comesUpon", "(III)Z"⟩
def w_Md_comesUpon : List Cond := .code y_Md_comesUpon b_Md_comesUpon 10 (some .boolean) :: TB
theorem k_Md_comesUpon : Cond.code y_Md_comesUpon b_Md_comesUpon 10 (some .boolean) ∈ TB := tb_of 921 (by decide +kernel) (by decide +kernel)
theorem d_Md_comesUpon_0 : decode b_Md_comesUpon 0 = .ok (.iload_n 2, 1) := by decide +kernel
theorem d_Md_comesUpon_1 : decode b_Md_comesUpon 1 = .ok (.istore 4, 2) := by decide +kernel
theorem d_Md_comesUpon_3 : decode b_Md_comesUpon 3 = .ok (.iconst 0, 1) := by decide +kernel
theorem d_Md_comesUpon_4 : decode b_Md_comesUpon 4 = .ok (.istore 5, 2) := by decide +kernel
theorem d_Md_comesUpon_6 : decode b_Md_comesUpon 6 = .ok (.iconst 1, 1) := by decide +kernel
theorem d_Md_comesUpon_7 : decode b_Md_comesUpon 7 = .ok (.istore 6, 2) := by decide +kernel
theorem d_Md_comesUpon_9 : decode b_Md_comesUpon 9 = .ok (.iconst 0, 1) := by decide +kernel
theorem d_Md_comesUpon_10 : decode b_Md_comesUpon 10 = .ok (.istore 7, 2) := by decide +kernel
theorem d_Md_comesUpon_12 : decode b_Md_comesUpon 12 = .ok (.iload 7, 2) := by decide +kernel
theorem d_Md_comesUpon_14 : decode b_Md_comesUpon 14 = .ok (.aload_n 0, 1) := by decide +kernel
theorem d_Md_comesUpon_15 : decode b_Md_comesUpon 15 = .ok (.getfield 16, 3) := by decide +kernel
theorem d_Md_comesUpon_18 : decode b_Md_comesUpon 18 = .ok (.iload_n 1, 1) := by decide +kernel
theorem d_Md_comesUpon_19 : decode b_Md_comesUpon 19 = .ok (.iaload, 1) := by decide +kernel
theorem d_Md_comesUpon_20 : decode b_Md_comesUpon 20 = .ok (.if_icmp .ge 101, 3) := by decide +kernel
theorem d_Md_comesUpon_23 : decode b_Md_comesUpon 23 = .ok (.iload 6, 2) := by decide +kernel
theorem d_Md_comesUpon_25 : decode b_Md_comesUpon 25 = .ok (.ifCond .eq 96, 3) := by decide +kernel
theorem d_Md_comesUpon_28 : decode b_Md_comesUpon 28 = .ok (.aload_n 0, 1) := by decide +kernel
theorem d_Md_comesUpon_29 : decode b_Md_comesUpon 29 = .ok (.getfield 19, 3) := by decide +kernel
theorem d_Md_comesUpon_32 : decode b_Md_comesUpon 32 = .ok (.bipush 8, 2) := by decide +kernel
theorem d_Md_comesUpon_34 : decode b_Md_comesUpon 34 = .ok (.iload_n 1, 1) := by decide +kernel
theorem d_Md_comesUpon_35 : decode b_Md_comesUpon 35 = .ok (.imul, 1) := by decide +kernel
theorem d_Md_comesUpon_36 : decode b_Md_comesUpon 36 = .ok (.iload 7, 2) := by decide +kernel
theorem d_Md_comesUpon_38 : decode b_Md_comesUpon 38 = .ok (.iadd, 1) := by decide +kernel
theorem d_Md_comesUpon_39 : decode b_Md_comesUpon 39 = .ok (.iaload, 1) := by decide +kernel
theorem d_Md_comesUpon_40 : decode b_Md_comesUpon 40 = .ok (.istore 8, 2) := by decide +kernel
theorem d_Md_comesUpon_42 : decode b_Md_comesUpon 42 = .ok (.iload 8, 2) := by decide +kernel
theorem d_Md_comesUpon_44 : decode b_Md_comesUpon 44 = .ok (.ifCond .lt 34, 3) := by decide +kernel
theorem d_Md_comesUpon_47 : decode b_Md_comesUpon 47 = .ok (.iload 4, 2) := by decide +kernel
theorem d_Md_comesUpon_49 : decode b_Md_comesUpon 49 = .ok (.iload_n 3, 1) := by decide +kernel
theorem d_Md_comesUpon_50 : decode b_Md_comesUpon 50 = .ok (.if_icmp .ge 19, 3) := by decide +kernel
theorem d_Md_comesUpon_53 : decode b_Md_comesUpon 53 = .ok (.aload_n 0, 1) := by decide +kernel
theorem d_Md_comesUpon_54 : decode b_Md_comesUpon 54 = .ok (.getfield 22, 3) := by decide +kernel
theorem d_Md_comesUpon_57 : decode b_Md_comesUpon 57 = .ok (.iload 4, 2) := by decide +kernel
theorem d_Md_comesUpon_59 : decode b_Md_comesUpon 59 = .ok (.iaload, 1) := by decide +kernel
theorem d_Md_comesUpon_60 : decode b_Md_comesUpon 60 = .ok (.iload 8, 2) := by decide +kernel
theorem d_Md_comesUpon_62 : decode b_Md_comesUpon 62 = .ok (.if_icmp .ne 7, 3) := by decide +kernel
theorem d_Md_comesUpon_65 : decode b_Md_comesUpon 65 = .ok (.iconst 1, 1) := by decide +kernel
theorem d_Md_comesUpon_66 : decode b_Md_comesUpon 66 = .ok (.goto 4, 3) := by decide +kernel
theorem d_Md_comesUpon_69 : decode b_Md_comesUpon 69 = .ok (.iconst 0, 1) := by decide +kernel
theorem d_Md_comesUpon_70 : decode b_Md_comesUpon 70 = .ok (.istore 6, 2) := by decide +kernel
theorem d_Md_comesUpon_72 : decode b_Md_comesUpon 72 = .ok (.iinc 4 1, 3) := by decide +kernel
theorem d_Md_comesUpon_75 : decode b_Md_comesUpon 75 = .ok (.goto 40, 3) := by decide +kernel
theorem d_Md_comesUpon_78 : decode b_Md_comesUpon 78 = .ok (.aload_n 0, 1) := by decide +kernel
theorem d_Md_comesUpon_79 : decode b_Md_comesUpon 79 = .ok (.getfield 48, 3) := by decide +kernel
theorem d_Md_comesUpon_82 : decode b_Md_comesUpon 82 = .ok (.iload 5, 2) := by decide +kernel
theorem d_Md_comesUpon_84 : decode b_Md_comesUpon 84 = .ok (.iload 4, 2) := by decide +kernel
theorem d_Md_comesUpon_86 : decode b_Md_comesUpon 86 = .ok (.iastore, 1) := by decide +kernel
theorem d_Md_comesUpon_87 : decode b_Md_comesUpon 87 = .ok (.iload 4, 2) := by decide +kernel
theorem d_Md_comesUpon_89 : decode b_Md_comesUpon 89 = .ok (.aload_n 0, 1) := by decide +kernel
theorem d_Md_comesUpon_90 : decode b_Md_comesUpon 90 = .ok (.getfield 45, 3) := by decide +kernel
theorem d_Md_comesUpon_93 : decode b_Md_comesUpon 93 = .ok (.iload 5, 2) := by decide +kernel
theorem d_Md_comesUpon_95 : decode b_Md_comesUpon 95 = .ok (.iaload, 1) := by decide +kernel
theorem d_Md_comesUpon_96 : decode b_Md_comesUpon 96 = .ok (.iadd, 1) := by decide +kernel
theorem d_Md_comesUpon_97 : decode b_Md_comesUpon 97 = .ok (.istore 4, 2) := by decide +kernel
theorem d_Md_comesUpon_99 : decode b_Md_comesUpon 99 = .ok (.iload 4, 2) := by decide +kernel
theorem d_Md_comesUpon_101 : decode b_Md_comesUpon 101 = .ok (.iload_n 3, 1) := by decide +kernel
theorem d_Md_comesUpon_102 : decode b_Md_comesUpon 102 = .ok (.if_icmp .gt 7, 3) := by decide +kernel
theorem d_Md_comesUpon_105 : decode b_Md_comesUpon 105 = .ok (.iconst 1, 1) := by decide +kernel
theorem d_Md_comesUpon_106 : decode b_Md_comesUpon 106 = .ok (.goto 4, 3) := by decide +kernel
theorem d_Md_comesUpon_109 : decode b_Md_comesUpon 109 = .ok (.iconst 0, 1) := by decide +kernel
theorem d_Md_comesUpon_110 : decode b_Md_comesUpon 110 = .ok (.istore 6, 2) := by decide +kernel
theorem d_Md_comesUpon_112 : decode b_Md_comesUpon 112 = .ok (.iinc 5 1, 3) := by decide +kernel
theorem d_Md_comesUpon_115 : decode b_Md_comesUpon 115 = .ok (.iinc 7 1, 3) := by decide +kernel
theorem d_Md_comesUpon_118 : decode b_Md_comesUpon 118 = .ok (.goto (-106), 3) := by decide +kernel
theorem d_Md_comesUpon_121 : decode b_Md_comesUpon 121 = .ok (.iload 6, 2) := by decide +kernel
theorem d_Md_comesUpon_123 : decode b_Md_comesUpon 123 = .ok (.ifCond .eq 13, 3) := by decide +kernel
theorem d_Md_comesUpon_126 : decode b_Md_comesUpon 126 = .ok (.iload 4, 2) := by decide +kernel
theorem d_Md_comesUpon_128 : decode b_Md_comesUpon 128 = .ok (.iload_n 3, 1) := by decide +kernel
theorem d_Md_comesUpon_129 : decode b_Md_comesUpon 129 = .ok (.if_icmp .ne 7, 3) := by decide +kernel
theorem d_Md_comesUpon_132 : decode b_Md_comesUpon 132 = .ok (.iconst 1, 1) := by decide +kernel
theorem d_Md_comesUpon_133 : decode b_Md_comesUpon 133 = .ok (.goto 4, 3) := by decide +kernel
theorem d_Md_comesUpon_136 : decode b_Md_comesUpon 136 = .ok (.iconst 0, 1) := by decide +kernel
theorem d_Md_comesUpon_137 : decode b_Md_comesUpon 137 = .ok (.istore 6, 2) := by decide +kernel
theorem d_Md_comesUpon_139 : decode b_Md_comesUpon 139 = .ok (.iconst 0, 1) := by decide +kernel
theorem d_Md_comesUpon_140 : decode b_Md_comesUpon 140 = .ok (.istore 7, 2) := by decide +kernel
theorem d_Md_comesUpon_142 : decode b_Md_comesUpon 142 = .ok (.iload 7, 2) := by decide +kernel
theorem d_Md_comesUpon_144 : decode b_Md_comesUpon 144 = .ok (.aload_n 0, 1) := by decide +kernel
theorem d_Md_comesUpon_145 : decode b_Md_comesUpon 145 = .ok (.getfield 135, 3) := by decide +kernel
theorem d_Md_comesUpon_148 : decode b_Md_comesUpon 148 = .ok (.if_icmp .ge 113, 3) := by decide +kernel
theorem d_Md_comesUpon_151 : decode b_Md_comesUpon 151 = .ok (.iload 6, 2) := by decide +kernel
theorem d_Md_comesUpon_153 : decode b_Md_comesUpon 153 = .ok (.ifCond .eq 108, 3) := by decide +kernel
theorem d_Md_comesUpon_156 : decode b_Md_comesUpon 156 = .ok (.aload_n 0, 1) := by decide +kernel
theorem d_Md_comesUpon_157 : decode b_Md_comesUpon 157 = .ok (.getfield 57, 3) := by decide +kernel
theorem d_Md_comesUpon_160 : decode b_Md_comesUpon 160 = .ok (.iload 7, 2) := by decide +kernel
theorem d_Md_comesUpon_162 : decode b_Md_comesUpon 162 = .ok (.iaload, 1) := by decide +kernel
theorem d_Md_comesUpon_163 : decode b_Md_comesUpon 163 = .ok (.istore 8, 2) := by decide +kernel
theorem d_Md_comesUpon_165 : decode b_Md_comesUpon 165 = .ok (.aload_n 0, 1) := by decide +kernel
theorem d_Md_comesUpon_166 : decode b_Md_comesUpon 166 = .ok (.getfield 45, 3) := by decide +kernel
theorem d_Md_comesUpon_169 : decode b_Md_comesUpon 169 = .ok (.iload 8, 2) := by decide +kernel
theorem d_Md_comesUpon_171 : decode b_Md_comesUpon 171 = .ok (.iaload, 1) := by decide +kernel
theorem d_Md_comesUpon_172 : decode b_Md_comesUpon 172 = .ok (.aload_n 0, 1) := by decide +kernel
theorem d_Md_comesUpon_173 : decode b_Md_comesUpon 173 = .ok (.getfield 45, 3) := by decide +kernel
theorem d_Md_comesUpon_176 : decode b_Md_comesUpon 176 = .ok (.iload 7, 2) := by decide +kernel
theorem d_Md_comesUpon_178 : decode b_Md_comesUpon 178 = .ok (.iaload, 1) := by decide +kernel
theorem d_Md_comesUpon_179 : decode b_Md_comesUpon 179 = .ok (.if_icmp .ne 7, 3) := by decide +kernel
theorem d_Md_comesUpon_182 : decode b_Md_comesUpon 182 = .ok (.iconst 1, 1) := by decide +kernel
theorem d_Md_comesUpon_183 : decode b_Md_comesUpon 183 = .ok (.goto 4, 3) := by decide +kernel
theorem d_Md_comesUpon_186 : decode b_Md_comesUpon 186 = .ok (.iconst 0, 1) := by decide +kernel
theorem d_Md_comesUpon_187 : decode b_Md_comesUpon 187 = .ok (.istore 6, 2) := by decide +kernel
theorem d_Md_comesUpon_189 : decode b_Md_comesUpon 189 = .ok (.iconst 0, 1) := by decide +kernel
theorem d_Md_comesUpon_190 : decode b_Md_comesUpon 190 = .ok (.istore 9, 2) := by decide +kernel
theorem d_Md_comesUpon_192 : decode b_Md_comesUpon 192 = .ok (.iload 6, 2) := by decide +kernel
theorem d_Md_comesUpon_194 : decode b_Md_comesUpon 194 = .ok (.ifCond .eq 61, 3) := by decide +kernel
theorem d_Md_comesUpon_197 : decode b_Md_comesUpon 197 = .ok (.iload 9, 2) := by decide +kernel
theorem d_Md_comesUpon_199 : decode b_Md_comesUpon 199 = .ok (.aload_n 0, 1) := by decide +kernel
theorem d_Md_comesUpon_200 : decode b_Md_comesUpon 200 = .ok (.getfield 45, 3) := by decide +kernel
theorem d_Md_comesUpon_203 : decode b_Md_comesUpon 203 = .ok (.iload 7, 2) := by decide +kernel
theorem d_Md_comesUpon_205 : decode b_Md_comesUpon 205 = .ok (.iaload, 1) := by decide +kernel
theorem d_Md_comesUpon_206 : decode b_Md_comesUpon 206 = .ok (.if_icmp .ge 49, 3) := by decide +kernel
theorem d_Md_comesUpon_209 : decode b_Md_comesUpon 209 = .ok (.aload_n 0, 1) := by decide +kernel
theorem d_Md_comesUpon_210 : decode b_Md_comesUpon 210 = .ok (.getfield 22, 3) := by decide +kernel
theorem d_Md_comesUpon_213 : decode b_Md_comesUpon 213 = .ok (.aload_n 0, 1) := by decide +kernel
theorem d_Md_comesUpon_214 : decode b_Md_comesUpon 214 = .ok (.getfield 48, 3) := by decide +kernel
theorem d_Md_comesUpon_217 : decode b_Md_comesUpon 217 = .ok (.iload 8, 2) := by decide +kernel
theorem d_Md_comesUpon_219 : decode b_Md_comesUpon 219 = .ok (.iaload, 1) := by decide +kernel
theorem d_Md_comesUpon_220 : decode b_Md_comesUpon 220 = .ok (.iload 9, 2) := by decide +kernel
theorem d_Md_comesUpon_222 : decode b_Md_comesUpon 222 = .ok (.iadd, 1) := by decide +kernel
theorem d_Md_comesUpon_223 : decode b_Md_comesUpon 223 = .ok (.iaload, 1) := by decide +kernel
theorem d_Md_comesUpon_224 : decode b_Md_comesUpon 224 = .ok (.aload_n 0, 1) := by decide +kernel
theorem d_Md_comesUpon_225 : decode b_Md_comesUpon 225 = .ok (.getfield 22, 3) := by decide +kernel
theorem d_Md_comesUpon_228 : decode b_Md_comesUpon 228 = .ok (.aload_n 0, 1) := by decide +kernel
theorem d_Md_comesUpon_229 : decode b_Md_comesUpon 229 = .ok (.getfield 48, 3) := by decide +kernel
theorem d_Md_comesUpon_232 : decode b_Md_comesUpon 232 = .ok (.iload 7, 2) := by decide +kernel
theorem d_Md_comesUpon_234 : decode b_Md_comesUpon 234 = .ok (.iaload, 1) := by decide +kernel
theorem d_Md_comesUpon_235 : decode b_Md_comesUpon 235 = .ok (.iload 9, 2) := by decide +kernel
theorem d_Md_comesUpon_237 : decode b_Md_comesUpon 237 = .ok (.iadd, 1) := by decide +kernel
theorem d_Md_comesUpon_238 : decode b_Md_comesUpon 238 = .ok (.iaload, 1) := by decide +kernel
theorem d_Md_comesUpon_239 : decode b_Md_comesUpon 239 = .ok (.if_icmp .ne 7, 3) := by decide +kernel
theorem d_Md_comesUpon_242 : decode b_Md_comesUpon 242 = .ok (.iconst 1, 1) := by decide +kernel
theorem d_Md_comesUpon_243 : decode b_Md_comesUpon 243 = .ok (.goto 4, 3) := by decide +kernel
theorem d_Md_comesUpon_246 : decode b_Md_comesUpon 246 = .ok (.iconst 0, 1) := by decide +kernel
theorem d_Md_comesUpon_247 : decode b_Md_comesUpon 247 = .ok (.istore 6, 2) := by decide +kernel
theorem d_Md_comesUpon_249 : decode b_Md_comesUpon 249 = .ok (.iinc 9 1, 3) := by decide +kernel
theorem d_Md_comesUpon_252 : decode b_Md_comesUpon 252 = .ok (.goto (-60), 3) := by decide +kernel
theorem d_Md_comesUpon_255 : decode b_Md_comesUpon 255 = .ok (.iinc 7 1, 3) := by decide +kernel
theorem d_Md_comesUpon_258 : decode b_Md_comesUpon 258 = .ok (.goto (-116), 3) := by decide +kernel
theorem d_Md_comesUpon_261 : decode b_Md_comesUpon 261 = .ok (.iload 6, 2) := by decide +kernel
theorem d_Md_comesUpon_263 : decode b_Md_comesUpon 263 = .ok (.ireturn, 1) := by decide +kernel
theorem fl_Md_48 : Cond.fieldLink R_Md 48 "RuleTreesModel" "starts" "[I" ∈ TB := tb_of 741 (by decide +kernel) (by decide +kernel)
theorem fl_Md_45 : Cond.fieldLink R_Md 45 "RuleTreesModel" "lengths" "[I" ∈ TB := tb_of 740 (by decide +kernel) (by decide +kernel)
theorem fl_Md_135 : Cond.fieldLink R_Md 135 "RuleTreesModel" "standing" "I" ∈ TB := tb_of 745 (by decide +kernel) (by decide +kernel)
theorem fl_Md_57 : Cond.fieldLink R_Md 57 "RuleTreesModel" "firstOf" "[I" ∈ TB := tb_of 744 (by decide +kernel) (by decide +kernel)
abbrev rm_Md_comesUpon : Room := { frames := 0, cells := 0, slots := 0, locals := 0 }
def f_Md_comesUpon_12 (N : Nat) (kb : (Nat → Nat → Int32) → Int32 → Int32 → Int32 → Int32 → Option ((Int32) × (Nat → Nat → Int32))) (kx121 : (Nat → Nat → Int32) → Int32 → Int32 → Option ((Int32) × (Nat → Nat → Int32))) (s_self : Nat → Nat → Int32) (v1 v3 v4 v5 v6 v7 : Int32) : Option ((Int32) × (Nat → Nat → Int32)) :=
  ck v1 31 <|
  if (s_self 3 (Int32.toNatClampNeg v1)) ≤ v7 then
    kx121 s_self v4 v6
  else
    if v6 = 0 then
      kx121 s_self v4 v6
    else
      ck ((8 * v1) + v7) 248 <|
      nm (s_self 4 (Int32.toNatClampNeg ((8 * v1) + v7))) fun v8_5 =>
      if v8_5 < 0 then
        ck v5 4 <| nm (st2 s_self 12 (Int32.toNatClampNeg v5) v4) fun s_self_8 =>
        ck v5 4 <|
        nm (v4 + (s_self_8 11 (Int32.toNatClampNeg v5))) fun v4_10 =>
        if v3 < v4_10 then
          nm (v5 + 1) fun v5_12 =>
          nm (v7 + 1) fun v7_13 =>
          kb s_self_8 v4_10 v5_12 0 v7_13
        else
          nm (v5 + 1) fun v5_14 =>
          nm (v7 + 1) fun v7_15 =>
          kb s_self_8 v4_10 v5_14 1 v7_15
      else
        if v3 ≤ v4 then
          nm (v4 + 1) fun v4_17 =>
          nm (v7 + 1) fun v7_18 =>
          kb s_self v4_17 v5 0 v7_18
        else
          ck v4 12 <|
          if (s_self 5 (Int32.toNatClampNeg v4)) = v8_5 then
            nm (v4 + 1) fun v4_23 =>
            nm (v7 + 1) fun v7_24 =>
            kb s_self v4_23 v5 1 v7_24
          else
            nm (v4 + 1) fun v4_21 =>
            nm (v7 + 1) fun v7_22 =>
            kb s_self v4_21 v5 0 v7_22
set_option maxHeartbeats 4000000 in
set_option maxRecDepth 100000 in
theorem t_Md_comesUpon_12 {p : Program} {l : Launch} {e : Env} {s : State} {m : MethodId} {args : Array Value} {below : List Frame} {meth : Method} {c : Code} {A : Nat → Prop} {D : va_G} {K : Nat → ClassId} (a_self a_least : Nat → Nat) (X : gx p s m args c b_Md_comesUpon 10 R_Md w_Md_comesUpon D classes (tyK K) A) (hr : meth.sig.returnType = some .boolean) (hlk : meth.locks = false) (N : Nat) (r : Int32) (f_self : Nat → Nat → Int32) (s_self : Nat → Nat → Int32) (v1 v3 v4 v5 v6 v7 : Int32) (kb : (Nat → Nat → Int32) → Int32 → Int32 → Int32 → Int32 → Option ((Int32) × (Nat → Nat → Int32))) (hkb : ∀ (s_self : Nat → Nat → Int32) (v4 v5 v6 v7 : Int32), kb s_self v4 v5 v6 v7 = some (r, f_self) → Gd p l e rm_Md_comesUpon s m args below meth c 0 0 (MQ below (sq D classes (tyK K) (some (.int r)) [wd_Md K a_self (a_least 0) f_self] A) args s 0 0 A) D classes A 10 12 [wd_Md K a_self (a_least 0) s_self] [(0, .ref (a_self 0)), (1, .int v1), (3, .int v3), (4, .int v4), (5, .int v5), (6, .int v6), (7, .int v7)] []) (kx121 : (Nat → Nat → Int32) → Int32 → Int32 → Option ((Int32) × (Nat → Nat → Int32))) (hkx121 : ∀ (s_self : Nat → Nat → Int32) (v4 v6 : Int32), kx121 s_self v4 v6 = some (r, f_self) → Gd p l e rm_Md_comesUpon s m args below meth c 0 0 (MQ below (sq D classes (tyK K) (some (.int r)) [wd_Md K a_self (a_least 0) f_self] A) args s 0 0 A) D classes A 10 121 [wd_Md K a_self (a_least 0) s_self] [(0, .ref (a_self 0)), (3, .int v3), (4, .int v4), (6, .int v6)] []) (h : f_Md_comesUpon_12 N kb kx121 s_self v1 v3 v4 v5 v6 v7 = some (r, f_self)) : Gd p l e rm_Md_comesUpon s m args below meth c 0 0 (MQ below (sq D classes (tyK K) (some (.int r)) [wd_Md K a_self (a_least 0) f_self] A) args s 0 0 A) D classes A 10 12 [wd_Md K a_self (a_least 0) s_self] [(0, .ref (a_self 0)), (1, .int v1), (3, .int v3), (4, .int v4), (5, .int v5), (6, .int v6), (7, .int v7)] [] := by
  unfold f_Md_comesUpon_12 at h
  refine gd_iload X d_Md_comesUpon_12 6 rfl ?_
  refine gd_aload_n X d_Md_comesUpon_14 0 rfl ?_
  refine gd_get X (ci := 7) (C := R_Md) (T := F_Md) (N := 36) (v := .ref (a_self 3)) 0 0 rfl rfl rfl (in_Md _) 7 (by decide) (List.mem_cons_of_mem _ fl_Md_16) rfl rfl d_Md_comesUpon_15 ?_
  refine gd_iload_n X d_Md_comesUpon_18 1 rfl ?_
  obtain ⟨hi_1, h⟩ := ck_e h
  refine gd_iald X 0 3 0 rfl rfl rfl hi_1 d_Md_comesUpon_19 ?_
  refine gd_icmp_ge X (tgt := 121) d_Md_comesUpon_20 (by decide) (fun c_2 => ?_) (fun c_2 => ?_)
  · replace h := it_p c_2 h
    refine gd_loc (lv' := [(0, .ref (a_self 0)), (3, .int v3), (4, .int v4), (6, .int v6)]) [0, 2, 3, 5] rfl ?_
    exact hkx121 s_self v4 v6 h
  · replace h := it_n c_2 h
    refine gd_iload X d_Md_comesUpon_23 5 rfl ?_
    refine gd_if_eq X (tgt := 121) d_Md_comesUpon_25 (by decide) (fun c_3 => ?_) (fun c_3 => ?_)
    · replace h := it_p c_3 h
      refine gd_loc (lv' := [(0, .ref (a_self 0)), (3, .int v3), (4, .int v4), (6, .int v6)]) [0, 2, 3, 5] rfl ?_
      exact hkx121 s_self v4 v6 h
    · replace h := it_n c_3 h
      refine gd_aload_n X d_Md_comesUpon_28 0 rfl ?_
      refine gd_get X (ci := 7) (C := R_Md) (T := F_Md) (N := 36) (v := .ref (a_self 4)) 0 0 rfl rfl rfl (in_Md _) 8 (by decide) (List.mem_cons_of_mem _ fl_Md_19) rfl rfl d_Md_comesUpon_29 ?_
      refine gd_bipush X (v := 8) d_Md_comesUpon_32 (by decide) ?_
      refine gd_iload_n X d_Md_comesUpon_34 1 rfl ?_
      refine gd_imul X d_Md_comesUpon_35 ?_
      refine gd_iload X d_Md_comesUpon_36 6 rfl ?_
      refine gd_iadd X d_Md_comesUpon_38 ?_
      obtain ⟨hi_4, h⟩ := ck_e h
      refine gd_iald X 0 4 0 rfl rfl rfl hi_4 d_Md_comesUpon_39 ?_
      obtain ⟨v8_5, ev8_5, h⟩ := nm_e' h
      refine gd_topi ev8_5 ?_
      refine gd_istore X (lv' := [(8, .int v8_5), (0, .ref (a_self 0)), (1, .int v1), (3, .int v3), (4, .int v4), (5, .int v5), (6, .int v6), (7, .int v7)]) d_Md_comesUpon_40 (by decide) rfl ?_
      refine gd_iload X d_Md_comesUpon_42 0 rfl ?_
      refine gd_if_lt X (tgt := 78) d_Md_comesUpon_44 (by decide) (fun c_6 => ?_) (fun c_6 => ?_)
      · replace h := it_p c_6 h
        refine gd_aload_n X d_Md_comesUpon_78 1 rfl ?_
        refine gd_get X (ci := 7) (C := R_Md) (T := F_Md) (N := 36) (v := .ref (a_self 12)) 0 0 rfl rfl rfl (in_Md _) 21 (by decide) (List.mem_cons_of_mem _ fl_Md_48) rfl rfl d_Md_comesUpon_79 ?_
        refine gd_iload X d_Md_comesUpon_82 5 rfl ?_
        refine gd_iload X d_Md_comesUpon_84 4 rfl ?_
        obtain ⟨hi_7, h⟩ := ck_e h
        obtain ⟨s_self_8, es_self_8, h⟩ := nm_e' h
        refine gd_iast X (w' := [wd_Md K a_self (a_least 0) s_self_8]) 0 12 0 rfl rfl rfl hi_7 d_Md_comesUpon_86 (by rw [es_self_8]; rfl) ?_
        refine gd_iload X d_Md_comesUpon_87 4 rfl ?_
        refine gd_aload_n X d_Md_comesUpon_89 1 rfl ?_
        refine gd_get X (ci := 7) (C := R_Md) (T := F_Md) (N := 36) (v := .ref (a_self 11)) 0 0 rfl rfl rfl (in_Md _) 20 (by decide) (List.mem_cons_of_mem _ fl_Md_45) rfl rfl d_Md_comesUpon_90 ?_
        refine gd_iload X d_Md_comesUpon_93 5 rfl ?_
        obtain ⟨hi_9, h⟩ := ck_e h
        refine gd_iald X 0 11 0 rfl rfl rfl hi_9 d_Md_comesUpon_95 ?_
        refine gd_iadd X d_Md_comesUpon_96 ?_
        obtain ⟨v4_10, ev4_10, h⟩ := nm_e' h
        refine gd_topi ev4_10 ?_
        refine gd_istore X (lv' := [(4, .int v4_10), (8, .int v8_5), (0, .ref (a_self 0)), (1, .int v1), (3, .int v3), (5, .int v5), (6, .int v6), (7, .int v7)]) d_Md_comesUpon_97 (by decide) rfl ?_
        refine gd_iload X d_Md_comesUpon_99 0 rfl ?_
        refine gd_iload_n X d_Md_comesUpon_101 4 rfl ?_
        refine gd_icmp_gt X (tgt := 109) d_Md_comesUpon_102 (by decide) (fun c_11 => ?_) (fun c_11 => ?_)
        · replace h := it_p c_11 h
          refine gd_iconst X (v := 0) d_Md_comesUpon_109 (by decide) ?_
          refine gd_istore X (lv' := [(6, .int 0), (4, .int v4_10), (8, .int v8_5), (0, .ref (a_self 0)), (1, .int v1), (3, .int v3), (5, .int v5), (7, .int v7)]) d_Md_comesUpon_110 (by decide) rfl ?_
          obtain ⟨v5_12, ev5_12, h⟩ := nm_e' h
          refine gd_iinc X (v := v5_12) (lv' := [(5, .int v5_12), (6, .int 0), (4, .int v4_10), (8, .int v8_5), (0, .ref (a_self 0)), (1, .int v1), (3, .int v3), (7, .int v7)]) d_Md_comesUpon_112 (k := 6) rfl (by rw [ev5_12]; rfl) (by decide) rfl ?_
          obtain ⟨v7_13, ev7_13, h⟩ := nm_e' h
          refine gd_iinc X (v := v7_13) (lv' := [(7, .int v7_13), (5, .int v5_12), (6, .int 0), (4, .int v4_10), (8, .int v8_5), (0, .ref (a_self 0)), (1, .int v1), (3, .int v3)]) d_Md_comesUpon_115 (k := 7) rfl (by rw [ev7_13]; rfl) (by decide) rfl ?_
          refine gd_goto X (tgt := 12) d_Md_comesUpon_118 (by decide) ?_
          refine gd_loc (lv' := [(0, .ref (a_self 0)), (1, .int v1), (3, .int v3), (4, .int v4_10), (5, .int v5_12), (6, .int 0), (7, .int v7_13)]) [5, 6, 7, 3, 1, 2, 0] rfl ?_
          exact hkb s_self_8 v4_10 v5_12 0 v7_13 h
        · replace h := it_n c_11 h
          refine gd_iconst X (v := 1) d_Md_comesUpon_105 (by decide) ?_
          refine gd_goto X (tgt := 110) d_Md_comesUpon_106 (by decide) ?_
          refine gd_istore X (lv' := [(6, .int 1), (4, .int v4_10), (8, .int v8_5), (0, .ref (a_self 0)), (1, .int v1), (3, .int v3), (5, .int v5), (7, .int v7)]) d_Md_comesUpon_110 (by decide) rfl ?_
          obtain ⟨v5_14, ev5_14, h⟩ := nm_e' h
          refine gd_iinc X (v := v5_14) (lv' := [(5, .int v5_14), (6, .int 1), (4, .int v4_10), (8, .int v8_5), (0, .ref (a_self 0)), (1, .int v1), (3, .int v3), (7, .int v7)]) d_Md_comesUpon_112 (k := 6) rfl (by rw [ev5_14]; rfl) (by decide) rfl ?_
          obtain ⟨v7_15, ev7_15, h⟩ := nm_e' h
          refine gd_iinc X (v := v7_15) (lv' := [(7, .int v7_15), (5, .int v5_14), (6, .int 1), (4, .int v4_10), (8, .int v8_5), (0, .ref (a_self 0)), (1, .int v1), (3, .int v3)]) d_Md_comesUpon_115 (k := 7) rfl (by rw [ev7_15]; rfl) (by decide) rfl ?_
          refine gd_goto X (tgt := 12) d_Md_comesUpon_118 (by decide) ?_
          refine gd_loc (lv' := [(0, .ref (a_self 0)), (1, .int v1), (3, .int v3), (4, .int v4_10), (5, .int v5_14), (6, .int 1), (7, .int v7_15)]) [5, 6, 7, 3, 1, 2, 0] rfl ?_
          exact hkb s_self_8 v4_10 v5_14 1 v7_15 h
      · replace h := it_n c_6 h
        refine gd_iload X d_Md_comesUpon_47 4 rfl ?_
        refine gd_iload_n X d_Md_comesUpon_49 3 rfl ?_
        refine gd_icmp_ge X (tgt := 69) d_Md_comesUpon_50 (by decide) (fun c_16 => ?_) (fun c_16 => ?_)
        · replace h := it_p c_16 h
          refine gd_iconst X (v := 0) d_Md_comesUpon_69 (by decide) ?_
          refine gd_istore X (lv' := [(6, .int 0), (8, .int v8_5), (0, .ref (a_self 0)), (1, .int v1), (3, .int v3), (4, .int v4), (5, .int v5), (7, .int v7)]) d_Md_comesUpon_70 (by decide) rfl ?_
          obtain ⟨v4_17, ev4_17, h⟩ := nm_e' h
          refine gd_iinc X (v := v4_17) (lv' := [(4, .int v4_17), (6, .int 0), (8, .int v8_5), (0, .ref (a_self 0)), (1, .int v1), (3, .int v3), (5, .int v5), (7, .int v7)]) d_Md_comesUpon_72 (k := 5) rfl (by rw [ev4_17]; rfl) (by decide) rfl ?_
          refine gd_goto X (tgt := 115) d_Md_comesUpon_75 (by decide) ?_
          obtain ⟨v7_18, ev7_18, h⟩ := nm_e' h
          refine gd_iinc X (v := v7_18) (lv' := [(7, .int v7_18), (4, .int v4_17), (6, .int 0), (8, .int v8_5), (0, .ref (a_self 0)), (1, .int v1), (3, .int v3), (5, .int v5)]) d_Md_comesUpon_115 (k := 7) rfl (by rw [ev7_18]; rfl) (by decide) rfl ?_
          refine gd_goto X (tgt := 12) d_Md_comesUpon_118 (by decide) ?_
          refine gd_loc (lv' := [(0, .ref (a_self 0)), (1, .int v1), (3, .int v3), (4, .int v4_17), (5, .int v5), (6, .int 0), (7, .int v7_18)]) [4, 5, 6, 1, 7, 2, 0] rfl ?_
          exact hkb s_self v4_17 v5 0 v7_18 h
        · replace h := it_n c_16 h
          refine gd_aload_n X d_Md_comesUpon_53 1 rfl ?_
          refine gd_get X (ci := 7) (C := R_Md) (T := F_Md) (N := 36) (v := .ref (a_self 5)) 0 0 rfl rfl rfl (in_Md _) 9 (by decide) (List.mem_cons_of_mem _ fl_Md_22) rfl rfl d_Md_comesUpon_54 ?_
          refine gd_iload X d_Md_comesUpon_57 4 rfl ?_
          obtain ⟨hi_19, h⟩ := ck_e h
          refine gd_iald X 0 5 0 rfl rfl rfl hi_19 d_Md_comesUpon_59 ?_
          refine gd_iload X d_Md_comesUpon_60 0 rfl ?_
          refine gd_icmp_ne X (tgt := 69) d_Md_comesUpon_62 (by decide) (fun c_20 => ?_) (fun c_20 => ?_)
          · replace h := it_n c_20 h
            refine gd_iconst X (v := 0) d_Md_comesUpon_69 (by decide) ?_
            refine gd_istore X (lv' := [(6, .int 0), (8, .int v8_5), (0, .ref (a_self 0)), (1, .int v1), (3, .int v3), (4, .int v4), (5, .int v5), (7, .int v7)]) d_Md_comesUpon_70 (by decide) rfl ?_
            obtain ⟨v4_21, ev4_21, h⟩ := nm_e' h
            refine gd_iinc X (v := v4_21) (lv' := [(4, .int v4_21), (6, .int 0), (8, .int v8_5), (0, .ref (a_self 0)), (1, .int v1), (3, .int v3), (5, .int v5), (7, .int v7)]) d_Md_comesUpon_72 (k := 5) rfl (by rw [ev4_21]; rfl) (by decide) rfl ?_
            refine gd_goto X (tgt := 115) d_Md_comesUpon_75 (by decide) ?_
            obtain ⟨v7_22, ev7_22, h⟩ := nm_e' h
            refine gd_iinc X (v := v7_22) (lv' := [(7, .int v7_22), (4, .int v4_21), (6, .int 0), (8, .int v8_5), (0, .ref (a_self 0)), (1, .int v1), (3, .int v3), (5, .int v5)]) d_Md_comesUpon_115 (k := 7) rfl (by rw [ev7_22]; rfl) (by decide) rfl ?_
            refine gd_goto X (tgt := 12) d_Md_comesUpon_118 (by decide) ?_
            refine gd_loc (lv' := [(0, .ref (a_self 0)), (1, .int v1), (3, .int v3), (4, .int v4_21), (5, .int v5), (6, .int 0), (7, .int v7_22)]) [4, 5, 6, 1, 7, 2, 0] rfl ?_
            exact hkb s_self v4_21 v5 0 v7_22 h
          · replace h := it_p c_20 h
            refine gd_iconst X (v := 1) d_Md_comesUpon_65 (by decide) ?_
            refine gd_goto X (tgt := 70) d_Md_comesUpon_66 (by decide) ?_
            refine gd_istore X (lv' := [(6, .int 1), (8, .int v8_5), (0, .ref (a_self 0)), (1, .int v1), (3, .int v3), (4, .int v4), (5, .int v5), (7, .int v7)]) d_Md_comesUpon_70 (by decide) rfl ?_
            obtain ⟨v4_23, ev4_23, h⟩ := nm_e' h
            refine gd_iinc X (v := v4_23) (lv' := [(4, .int v4_23), (6, .int 1), (8, .int v8_5), (0, .ref (a_self 0)), (1, .int v1), (3, .int v3), (5, .int v5), (7, .int v7)]) d_Md_comesUpon_72 (k := 5) rfl (by rw [ev4_23]; rfl) (by decide) rfl ?_
            refine gd_goto X (tgt := 115) d_Md_comesUpon_75 (by decide) ?_
            obtain ⟨v7_24, ev7_24, h⟩ := nm_e' h
            refine gd_iinc X (v := v7_24) (lv' := [(7, .int v7_24), (4, .int v4_23), (6, .int 1), (8, .int v8_5), (0, .ref (a_self 0)), (1, .int v1), (3, .int v3), (5, .int v5)]) d_Md_comesUpon_115 (k := 7) rfl (by rw [ev7_24]; rfl) (by decide) rfl ?_
            refine gd_goto X (tgt := 12) d_Md_comesUpon_118 (by decide) ?_
            refine gd_loc (lv' := [(0, .ref (a_self 0)), (1, .int v1), (3, .int v3), (4, .int v4_23), (5, .int v5), (6, .int 1), (7, .int v7_24)]) [4, 5, 6, 1, 7, 2, 0] rfl ?_
            exact hkb s_self v4_23 v5 1 v7_24 h
def f_Md_comesUpon_192 (N : Nat) (kb : Int32 → Int32 → Option ((Int32) × (Nat → Nat → Int32))) (kx255 : Int32 → Option ((Int32) × (Nat → Nat → Int32))) (s_self : Nat → Nat → Int32) (v6 v7 v8 v9 : Int32) : Option ((Int32) × (Nat → Nat → Int32)) :=
  if v6 = 0 then
    kx255 v6
  else
    ck v7 4 <|
    if (s_self 11 (Int32.toNatClampNeg v7)) ≤ v9 then
      kx255 v6
    else
      ck v8 4 <|
      ck ((s_self 12 (Int32.toNatClampNeg v8)) + v9) 12 <|
      ck v7 4 <|
      ck ((s_self 12 (Int32.toNatClampNeg v7)) + v9) 12 <|
      if (s_self 5 (Int32.toNatClampNeg ((s_self 12 (Int32.toNatClampNeg v8)) + v9))) = (s_self 5 (Int32.toNatClampNeg ((s_self 12 (Int32.toNatClampNeg v7)) + v9))) then
        nm (v9 + 1) fun v9_10 =>
        kb 1 v9_10
      else
        nm (v9 + 1) fun v9_9 =>
        kb 0 v9_9
set_option maxHeartbeats 4000000 in
set_option maxRecDepth 100000 in
theorem t_Md_comesUpon_192 {p : Program} {l : Launch} {e : Env} {s : State} {m : MethodId} {args : Array Value} {below : List Frame} {meth : Method} {c : Code} {A : Nat → Prop} {D : va_G} {K : Nat → ClassId} (a_self a_least : Nat → Nat) (X : gx p s m args c b_Md_comesUpon 10 R_Md w_Md_comesUpon D classes (tyK K) A) (hr : meth.sig.returnType = some .boolean) (hlk : meth.locks = false) (N : Nat) (r : Int32) (f_self : Nat → Nat → Int32) (s_self : Nat → Nat → Int32) (v6 v7 v8 v9 : Int32) (kb : Int32 → Int32 → Option ((Int32) × (Nat → Nat → Int32))) (hkb : ∀ (v6 v9 : Int32), kb v6 v9 = some (r, f_self) → Gd p l e rm_Md_comesUpon s m args below meth c 0 0 (MQ below (sq D classes (tyK K) (some (.int r)) [wd_Md K a_self (a_least 0) f_self] A) args s 0 0 A) D classes A 10 192 [wd_Md K a_self (a_least 0) s_self] [(0, .ref (a_self 0)), (6, .int v6), (7, .int v7), (8, .int v8), (9, .int v9)] []) (kx255 : Int32 → Option ((Int32) × (Nat → Nat → Int32))) (hkx255 : ∀ (v6 : Int32), kx255 v6 = some (r, f_self) → Gd p l e rm_Md_comesUpon s m args below meth c 0 0 (MQ below (sq D classes (tyK K) (some (.int r)) [wd_Md K a_self (a_least 0) f_self] A) args s 0 0 A) D classes A 10 255 [wd_Md K a_self (a_least 0) s_self] [(0, .ref (a_self 0)), (6, .int v6), (7, .int v7)] []) (h : f_Md_comesUpon_192 N kb kx255 s_self v6 v7 v8 v9 = some (r, f_self)) : Gd p l e rm_Md_comesUpon s m args below meth c 0 0 (MQ below (sq D classes (tyK K) (some (.int r)) [wd_Md K a_self (a_least 0) f_self] A) args s 0 0 A) D classes A 10 192 [wd_Md K a_self (a_least 0) s_self] [(0, .ref (a_self 0)), (6, .int v6), (7, .int v7), (8, .int v8), (9, .int v9)] [] := by
  unfold f_Md_comesUpon_192 at h
  refine gd_iload X d_Md_comesUpon_192 1 rfl ?_
  refine gd_if_eq X (tgt := 255) d_Md_comesUpon_194 (by decide) (fun c_1 => ?_) (fun c_1 => ?_)
  · replace h := it_p c_1 h
    refine gd_loc (lv' := [(0, .ref (a_self 0)), (6, .int v6), (7, .int v7)]) [0, 1, 2] rfl ?_
    exact hkx255 v6 h
  · replace h := it_n c_1 h
    refine gd_iload X d_Md_comesUpon_197 4 rfl ?_
    refine gd_aload_n X d_Md_comesUpon_199 0 rfl ?_
    refine gd_get X (ci := 7) (C := R_Md) (T := F_Md) (N := 36) (v := .ref (a_self 11)) 0 0 rfl rfl rfl (in_Md _) 20 (by decide) (List.mem_cons_of_mem _ fl_Md_45) rfl rfl d_Md_comesUpon_200 ?_
    refine gd_iload X d_Md_comesUpon_203 2 rfl ?_
    obtain ⟨hi_2, h⟩ := ck_e h
    refine gd_iald X 0 11 0 rfl rfl rfl hi_2 d_Md_comesUpon_205 ?_
    refine gd_icmp_ge X (tgt := 255) d_Md_comesUpon_206 (by decide) (fun c_3 => ?_) (fun c_3 => ?_)
    · replace h := it_p c_3 h
      refine gd_loc (lv' := [(0, .ref (a_self 0)), (6, .int v6), (7, .int v7)]) [0, 1, 2] rfl ?_
      exact hkx255 v6 h
    · replace h := it_n c_3 h
      refine gd_aload_n X d_Md_comesUpon_209 0 rfl ?_
      refine gd_get X (ci := 7) (C := R_Md) (T := F_Md) (N := 36) (v := .ref (a_self 5)) 0 0 rfl rfl rfl (in_Md _) 9 (by decide) (List.mem_cons_of_mem _ fl_Md_22) rfl rfl d_Md_comesUpon_210 ?_
      refine gd_aload_n X d_Md_comesUpon_213 0 rfl ?_
      refine gd_get X (ci := 7) (C := R_Md) (T := F_Md) (N := 36) (v := .ref (a_self 12)) 0 0 rfl rfl rfl (in_Md _) 21 (by decide) (List.mem_cons_of_mem _ fl_Md_48) rfl rfl d_Md_comesUpon_214 ?_
      refine gd_iload X d_Md_comesUpon_217 3 rfl ?_
      obtain ⟨hi_4, h⟩ := ck_e h
      refine gd_iald X 0 12 0 rfl rfl rfl hi_4 d_Md_comesUpon_219 ?_
      refine gd_iload X d_Md_comesUpon_220 4 rfl ?_
      refine gd_iadd X d_Md_comesUpon_222 ?_
      obtain ⟨hi_5, h⟩ := ck_e h
      refine gd_iald X 0 5 0 rfl rfl rfl hi_5 d_Md_comesUpon_223 ?_
      refine gd_aload_n X d_Md_comesUpon_224 0 rfl ?_
      refine gd_get X (ci := 7) (C := R_Md) (T := F_Md) (N := 36) (v := .ref (a_self 5)) 0 0 rfl rfl rfl (in_Md _) 9 (by decide) (List.mem_cons_of_mem _ fl_Md_22) rfl rfl d_Md_comesUpon_225 ?_
      refine gd_aload_n X d_Md_comesUpon_228 0 rfl ?_
      refine gd_get X (ci := 7) (C := R_Md) (T := F_Md) (N := 36) (v := .ref (a_self 12)) 0 0 rfl rfl rfl (in_Md _) 21 (by decide) (List.mem_cons_of_mem _ fl_Md_48) rfl rfl d_Md_comesUpon_229 ?_
      refine gd_iload X d_Md_comesUpon_232 2 rfl ?_
      obtain ⟨hi_6, h⟩ := ck_e h
      refine gd_iald X 0 12 0 rfl rfl rfl hi_6 d_Md_comesUpon_234 ?_
      refine gd_iload X d_Md_comesUpon_235 4 rfl ?_
      refine gd_iadd X d_Md_comesUpon_237 ?_
      obtain ⟨hi_7, h⟩ := ck_e h
      refine gd_iald X 0 5 0 rfl rfl rfl hi_7 d_Md_comesUpon_238 ?_
      refine gd_icmp_ne X (tgt := 246) d_Md_comesUpon_239 (by decide) (fun c_8 => ?_) (fun c_8 => ?_)
      · replace h := it_n c_8 h
        refine gd_iconst X (v := 0) d_Md_comesUpon_246 (by decide) ?_
        refine gd_istore X (lv' := [(6, .int 0), (0, .ref (a_self 0)), (7, .int v7), (8, .int v8), (9, .int v9)]) d_Md_comesUpon_247 (by decide) rfl ?_
        obtain ⟨v9_9, ev9_9, h⟩ := nm_e' h
        refine gd_iinc X (v := v9_9) (lv' := [(9, .int v9_9), (6, .int 0), (0, .ref (a_self 0)), (7, .int v7), (8, .int v8)]) d_Md_comesUpon_249 (k := 4) rfl (by rw [ev9_9]; rfl) (by decide) rfl ?_
        refine gd_goto X (tgt := 192) d_Md_comesUpon_252 (by decide) ?_
        refine gd_loc (lv' := [(0, .ref (a_self 0)), (6, .int 0), (7, .int v7), (8, .int v8), (9, .int v9_9)]) [2, 1, 3, 4, 0] rfl ?_
        exact hkb 0 v9_9 h
      · replace h := it_p c_8 h
        refine gd_iconst X (v := 1) d_Md_comesUpon_242 (by decide) ?_
        refine gd_goto X (tgt := 247) d_Md_comesUpon_243 (by decide) ?_
        refine gd_istore X (lv' := [(6, .int 1), (0, .ref (a_self 0)), (7, .int v7), (8, .int v8), (9, .int v9)]) d_Md_comesUpon_247 (by decide) rfl ?_
        obtain ⟨v9_10, ev9_10, h⟩ := nm_e' h
        refine gd_iinc X (v := v9_10) (lv' := [(9, .int v9_10), (6, .int 1), (0, .ref (a_self 0)), (7, .int v7), (8, .int v8)]) d_Md_comesUpon_249 (k := 4) rfl (by rw [ev9_10]; rfl) (by decide) rfl ?_
        refine gd_goto X (tgt := 192) d_Md_comesUpon_252 (by decide) ?_
        refine gd_loc (lv' := [(0, .ref (a_self 0)), (6, .int 1), (7, .int v7), (8, .int v8), (9, .int v9_10)]) [2, 1, 3, 4, 0] rfl ?_
        exact hkb 1 v9_10 h
def f_Md_comesUpon_255 (N : Nat) (kb : Int32 → Int32 → Option ((Int32) × (Nat → Nat → Int32))) (kx261 : Int32 → Option ((Int32) × (Nat → Nat → Int32))) (s_self : Nat → Nat → Int32) (v6 v7 : Int32) : Option ((Int32) × (Nat → Nat → Int32)) :=
  nm (v7 + 1) fun v7_1 =>
  kb v6 v7_1
set_option maxHeartbeats 4000000 in
set_option maxRecDepth 100000 in
theorem t_Md_comesUpon_255 {p : Program} {l : Launch} {e : Env} {s : State} {m : MethodId} {args : Array Value} {below : List Frame} {meth : Method} {c : Code} {A : Nat → Prop} {D : va_G} {K : Nat → ClassId} (a_self a_least : Nat → Nat) (X : gx p s m args c b_Md_comesUpon 10 R_Md w_Md_comesUpon D classes (tyK K) A) (hr : meth.sig.returnType = some .boolean) (hlk : meth.locks = false) (N : Nat) (r : Int32) (f_self : Nat → Nat → Int32) (s_self : Nat → Nat → Int32) (v6 v7 : Int32) (kb : Int32 → Int32 → Option ((Int32) × (Nat → Nat → Int32))) (hkb : ∀ (v6 v7 : Int32), kb v6 v7 = some (r, f_self) → Gd p l e rm_Md_comesUpon s m args below meth c 0 0 (MQ below (sq D classes (tyK K) (some (.int r)) [wd_Md K a_self (a_least 0) f_self] A) args s 0 0 A) D classes A 10 142 [wd_Md K a_self (a_least 0) s_self] [(0, .ref (a_self 0)), (6, .int v6), (7, .int v7)] []) (kx261 : Int32 → Option ((Int32) × (Nat → Nat → Int32))) (hkx261 : ∀ (v6 : Int32), kx261 v6 = some (r, f_self) → Gd p l e rm_Md_comesUpon s m args below meth c 0 0 (MQ below (sq D classes (tyK K) (some (.int r)) [wd_Md K a_self (a_least 0) f_self] A) args s 0 0 A) D classes A 10 261 [wd_Md K a_self (a_least 0) s_self] [(6, .int v6)] []) (h : f_Md_comesUpon_255 N kb kx261 s_self v6 v7 = some (r, f_self)) : Gd p l e rm_Md_comesUpon s m args below meth c 0 0 (MQ below (sq D classes (tyK K) (some (.int r)) [wd_Md K a_self (a_least 0) f_self] A) args s 0 0 A) D classes A 10 255 [wd_Md K a_self (a_least 0) s_self] [(0, .ref (a_self 0)), (6, .int v6), (7, .int v7)] [] := by
  unfold f_Md_comesUpon_255 at h
  obtain ⟨v7_1, ev7_1, h⟩ := nm_e' h
  refine gd_iinc X (v := v7_1) (lv' := [(7, .int v7_1), (0, .ref (a_self 0)), (6, .int v6)]) d_Md_comesUpon_255 (k := 2) rfl (by rw [ev7_1]; rfl) (by decide) rfl ?_
  refine gd_goto X (tgt := 142) d_Md_comesUpon_258 (by decide) ?_
  refine gd_loc (lv' := [(0, .ref (a_self 0)), (6, .int v6), (7, .int v7_1)]) [1, 2, 0] rfl ?_
  exact hkb v6 v7_1 h
def l_Md_comesUpon_192 (N : Nat) (s_self : Nat → Nat → Int32) (v7 v8 : Int32) (kx255 : Int32 → Option ((Int32) × (Nat → Nat → Int32))) : Nat → Int32 → Int32 → Option ((Int32) × (Nat → Nat → Int32))
  | 0, _, _ => none
  | n + 1, v6, v9 => f_Md_comesUpon_192 N (l_Md_comesUpon_192 N s_self v7 v8 kx255 n) kx255 s_self v6 v7 v8 v9
set_option maxHeartbeats 4000000 in
set_option maxRecDepth 100000 in
theorem tl_Md_comesUpon_192 {p : Program} {l : Launch} {e : Env} {s : State} {m : MethodId} {args : Array Value} {below : List Frame} {meth : Method} {c : Code} {A : Nat → Prop} {D : va_G} {K : Nat → ClassId} (a_self a_least : Nat → Nat) (X : gx p s m args c b_Md_comesUpon 10 R_Md w_Md_comesUpon D classes (tyK K) A) (hr : meth.sig.returnType = some .boolean) (hlk : meth.locks = false) (N : Nat) (r : Int32) (f_self : Nat → Nat → Int32) (s_self : Nat → Nat → Int32) (v7 v8 : Int32) (kx255 : Int32 → Option ((Int32) × (Nat → Nat → Int32))) (hkx255 : ∀ (v6 : Int32), kx255 v6 = some (r, f_self) → Gd p l e rm_Md_comesUpon s m args below meth c 0 0 (MQ below (sq D classes (tyK K) (some (.int r)) [wd_Md K a_self (a_least 0) f_self] A) args s 0 0 A) D classes A 10 255 [wd_Md K a_self (a_least 0) s_self] [(0, .ref (a_self 0)), (6, .int v6), (7, .int v7)] []) : ∀ (n : Nat) (v6 v9 : Int32), l_Md_comesUpon_192 N s_self v7 v8 kx255 n v6 v9 = some (r, f_self) → Gd p l e rm_Md_comesUpon s m args below meth c 0 0 (MQ below (sq D classes (tyK K) (some (.int r)) [wd_Md K a_self (a_least 0) f_self] A) args s 0 0 A) D classes A 10 192 [wd_Md K a_self (a_least 0) s_self] [(0, .ref (a_self 0)), (6, .int v6), (7, .int v7), (8, .int v8), (9, .int v9)] [] := by
  intro n
  induction n with
  | zero => intro v6 v9 h; have h : (none : Option ((Int32) × (Nat → Nat → Int32))) = some _ := h; cases h
  | succ n ih =>
    intro v6 v9 h
    exact t_Md_comesUpon_192 a_self a_least X hr hlk N r f_self s_self v6 v7 v8 v9 (l_Md_comesUpon_192 N s_self v7 v8 kx255 n) ih kx255 hkx255 h
def f_Md_comesUpon_142 (N : Nat) (kb : Int32 → Int32 → Option ((Int32) × (Nat → Nat → Int32))) (kx261 : Int32 → Option ((Int32) × (Nat → Nat → Int32))) (s_self : Nat → Nat → Int32) (v6 v7 : Int32) : Option ((Int32) × (Nat → Nat → Int32)) :=
  if (s_self 0 25) ≤ v7 then
    kx261 v6
  else
    if v6 = 0 then
      kx261 v6
    else
      ck v7 4 <|
      nm (s_self 15 (Int32.toNatClampNeg v7)) fun v8_4 =>
      ck v8_4 4 <|
      ck v7 4 <|
      if (s_self 11 (Int32.toNatClampNeg v8_4)) = (s_self 11 (Int32.toNatClampNeg v7)) then
        l_Md_comesUpon_192 N s_self v7 v8_4 (fun v6 => f_Md_comesUpon_255 N kb kx261 s_self v6 v7) N 1 0
      else
        l_Md_comesUpon_192 N s_self v7 v8_4 (fun v6 => f_Md_comesUpon_255 N kb kx261 s_self v6 v7) N 0 0
set_option maxHeartbeats 4000000 in
set_option maxRecDepth 100000 in
theorem t_Md_comesUpon_142 {p : Program} {l : Launch} {e : Env} {s : State} {m : MethodId} {args : Array Value} {below : List Frame} {meth : Method} {c : Code} {A : Nat → Prop} {D : va_G} {K : Nat → ClassId} (a_self a_least : Nat → Nat) (X : gx p s m args c b_Md_comesUpon 10 R_Md w_Md_comesUpon D classes (tyK K) A) (hr : meth.sig.returnType = some .boolean) (hlk : meth.locks = false) (N : Nat) (r : Int32) (f_self : Nat → Nat → Int32) (s_self : Nat → Nat → Int32) (v6 v7 : Int32) (kb : Int32 → Int32 → Option ((Int32) × (Nat → Nat → Int32))) (hkb : ∀ (v6 v7 : Int32), kb v6 v7 = some (r, f_self) → Gd p l e rm_Md_comesUpon s m args below meth c 0 0 (MQ below (sq D classes (tyK K) (some (.int r)) [wd_Md K a_self (a_least 0) f_self] A) args s 0 0 A) D classes A 10 142 [wd_Md K a_self (a_least 0) s_self] [(0, .ref (a_self 0)), (6, .int v6), (7, .int v7)] []) (kx261 : Int32 → Option ((Int32) × (Nat → Nat → Int32))) (hkx261 : ∀ (v6 : Int32), kx261 v6 = some (r, f_self) → Gd p l e rm_Md_comesUpon s m args below meth c 0 0 (MQ below (sq D classes (tyK K) (some (.int r)) [wd_Md K a_self (a_least 0) f_self] A) args s 0 0 A) D classes A 10 261 [wd_Md K a_self (a_least 0) s_self] [(6, .int v6)] []) (h : f_Md_comesUpon_142 N kb kx261 s_self v6 v7 = some (r, f_self)) : Gd p l e rm_Md_comesUpon s m args below meth c 0 0 (MQ below (sq D classes (tyK K) (some (.int r)) [wd_Md K a_self (a_least 0) f_self] A) args s 0 0 A) D classes A 10 142 [wd_Md K a_self (a_least 0) s_self] [(0, .ref (a_self 0)), (6, .int v6), (7, .int v7)] [] := by
  unfold f_Md_comesUpon_142 at h
  refine gd_iload X d_Md_comesUpon_142 2 rfl ?_
  refine gd_aload_n X d_Md_comesUpon_144 0 rfl ?_
  refine gd_get X (ci := 7) (C := R_Md) (T := F_Md) (N := 36) (v := .int (s_self 0 25)) 0 0 rfl rfl rfl (in_Md _) 25 (by decide) (List.mem_cons_of_mem _ fl_Md_135) rfl rfl d_Md_comesUpon_145 ?_
  refine gd_icmp_ge X (tgt := 261) d_Md_comesUpon_148 (by decide) (fun c_1 => ?_) (fun c_1 => ?_)
  · replace h := it_p c_1 h
    refine gd_loc (lv' := [(6, .int v6)]) [1] rfl ?_
    exact hkx261 v6 h
  · replace h := it_n c_1 h
    refine gd_iload X d_Md_comesUpon_151 1 rfl ?_
    refine gd_if_eq X (tgt := 261) d_Md_comesUpon_153 (by decide) (fun c_2 => ?_) (fun c_2 => ?_)
    · replace h := it_p c_2 h
      refine gd_loc (lv' := [(6, .int v6)]) [1] rfl ?_
      exact hkx261 v6 h
    · replace h := it_n c_2 h
      refine gd_aload_n X d_Md_comesUpon_156 0 rfl ?_
      refine gd_get X (ci := 7) (C := R_Md) (T := F_Md) (N := 36) (v := .ref (a_self 15)) 0 0 rfl rfl rfl (in_Md _) 24 (by decide) (List.mem_cons_of_mem _ fl_Md_57) rfl rfl d_Md_comesUpon_157 ?_
      refine gd_iload X d_Md_comesUpon_160 2 rfl ?_
      obtain ⟨hi_3, h⟩ := ck_e h
      refine gd_iald X 0 15 0 rfl rfl rfl hi_3 d_Md_comesUpon_162 ?_
      obtain ⟨v8_4, ev8_4, h⟩ := nm_e' h
      refine gd_topi ev8_4 ?_
      refine gd_istore X (lv' := [(8, .int v8_4), (0, .ref (a_self 0)), (6, .int v6), (7, .int v7)]) d_Md_comesUpon_163 (by decide) rfl ?_
      refine gd_aload_n X d_Md_comesUpon_165 1 rfl ?_
      refine gd_get X (ci := 7) (C := R_Md) (T := F_Md) (N := 36) (v := .ref (a_self 11)) 0 0 rfl rfl rfl (in_Md _) 20 (by decide) (List.mem_cons_of_mem _ fl_Md_45) rfl rfl d_Md_comesUpon_166 ?_
      refine gd_iload X d_Md_comesUpon_169 0 rfl ?_
      obtain ⟨hi_5, h⟩ := ck_e h
      refine gd_iald X 0 11 0 rfl rfl rfl hi_5 d_Md_comesUpon_171 ?_
      refine gd_aload_n X d_Md_comesUpon_172 1 rfl ?_
      refine gd_get X (ci := 7) (C := R_Md) (T := F_Md) (N := 36) (v := .ref (a_self 11)) 0 0 rfl rfl rfl (in_Md _) 20 (by decide) (List.mem_cons_of_mem _ fl_Md_45) rfl rfl d_Md_comesUpon_173 ?_
      refine gd_iload X d_Md_comesUpon_176 3 rfl ?_
      obtain ⟨hi_6, h⟩ := ck_e h
      refine gd_iald X 0 11 0 rfl rfl rfl hi_6 d_Md_comesUpon_178 ?_
      refine gd_icmp_ne X (tgt := 186) d_Md_comesUpon_179 (by decide) (fun c_7 => ?_) (fun c_7 => ?_)
      · replace h := it_n c_7 h
        refine gd_iconst X (v := 0) d_Md_comesUpon_186 (by decide) ?_
        refine gd_istore X (lv' := [(6, .int 0), (8, .int v8_4), (0, .ref (a_self 0)), (7, .int v7)]) d_Md_comesUpon_187 (by decide) rfl ?_
        refine gd_iconst X (v := 0) d_Md_comesUpon_189 (by decide) ?_
        refine gd_istore X (lv' := [(9, .int 0), (6, .int 0), (8, .int v8_4), (0, .ref (a_self 0)), (7, .int v7)]) d_Md_comesUpon_190 (by decide) rfl ?_
        refine gd_loc (lv' := [(0, .ref (a_self 0)), (6, .int 0), (7, .int v7), (8, .int v8_4), (9, .int 0)]) [3, 1, 4, 2, 0] rfl ?_
        exact tl_Md_comesUpon_192 a_self a_least X hr hlk N r f_self s_self v7 v8_4 (fun v6 => f_Md_comesUpon_255 N kb kx261 s_self v6 v7) (fun v6 h => t_Md_comesUpon_255 a_self a_least X hr hlk N r f_self s_self v6 v7 kb hkb kx261 hkx261 h) N 0 0 h
      · replace h := it_p c_7 h
        refine gd_iconst X (v := 1) d_Md_comesUpon_182 (by decide) ?_
        refine gd_goto X (tgt := 187) d_Md_comesUpon_183 (by decide) ?_
        refine gd_istore X (lv' := [(6, .int 1), (8, .int v8_4), (0, .ref (a_self 0)), (7, .int v7)]) d_Md_comesUpon_187 (by decide) rfl ?_
        refine gd_iconst X (v := 0) d_Md_comesUpon_189 (by decide) ?_
        refine gd_istore X (lv' := [(9, .int 0), (6, .int 1), (8, .int v8_4), (0, .ref (a_self 0)), (7, .int v7)]) d_Md_comesUpon_190 (by decide) rfl ?_
        refine gd_loc (lv' := [(0, .ref (a_self 0)), (6, .int 1), (7, .int v7), (8, .int v8_4), (9, .int 0)]) [3, 1, 4, 2, 0] rfl ?_
        exact tl_Md_comesUpon_192 a_self a_least X hr hlk N r f_self s_self v7 v8_4 (fun v6 => f_Md_comesUpon_255 N kb kx261 s_self v6 v7) (fun v6 h => t_Md_comesUpon_255 a_self a_least X hr hlk N r f_self s_self v6 v7 kb hkb kx261 hkx261 h) N 1 0 h
def f_Md_comesUpon_261 (N : Nat) (s_self : Nat → Nat → Int32) (v6 : Int32) : Option ((Int32) × (Nat → Nat → Int32)) :=
  cb v6 <|
  some ((v6), s_self)
set_option maxHeartbeats 4000000 in
set_option maxRecDepth 100000 in
theorem t_Md_comesUpon_261 {p : Program} {l : Launch} {e : Env} {s : State} {m : MethodId} {args : Array Value} {below : List Frame} {meth : Method} {c : Code} {A : Nat → Prop} {D : va_G} {K : Nat → ClassId} (a_self a_least : Nat → Nat) (X : gx p s m args c b_Md_comesUpon 10 R_Md w_Md_comesUpon D classes (tyK K) A) (hr : meth.sig.returnType = some .boolean) (hlk : meth.locks = false) (N : Nat) (r : Int32) (f_self : Nat → Nat → Int32) (s_self : Nat → Nat → Int32) (v6 : Int32) (h : f_Md_comesUpon_261 N s_self v6 = some (r, f_self)) : Gd p l e rm_Md_comesUpon s m args below meth c 0 0 (MQ below (sq D classes (tyK K) (some (.int r)) [wd_Md K a_self (a_least 0) f_self] A) args s 0 0 A) D classes A 10 261 [wd_Md K a_self (a_least 0) s_self] [(6, .int v6)] [] := by
  unfold f_Md_comesUpon_261 at h
  refine gd_iload X d_Md_comesUpon_261 0 rfl ?_
  obtain ⟨hz_1, h⟩ := cb_e h
  cases h
  exact gd_zret X hr hlk hz_1 d_Md_comesUpon_263
def l_Md_comesUpon_142 (N : Nat) (s_self : Nat → Nat → Int32) (kx261 : Int32 → Option ((Int32) × (Nat → Nat → Int32))) : Nat → Int32 → Int32 → Option ((Int32) × (Nat → Nat → Int32))
  | 0, _, _ => none
  | n + 1, v6, v7 => f_Md_comesUpon_142 N (l_Md_comesUpon_142 N s_self kx261 n) kx261 s_self v6 v7
set_option maxHeartbeats 4000000 in
set_option maxRecDepth 100000 in
theorem tl_Md_comesUpon_142 {p : Program} {l : Launch} {e : Env} {s : State} {m : MethodId} {args : Array Value} {below : List Frame} {meth : Method} {c : Code} {A : Nat → Prop} {D : va_G} {K : Nat → ClassId} (a_self a_least : Nat → Nat) (X : gx p s m args c b_Md_comesUpon 10 R_Md w_Md_comesUpon D classes (tyK K) A) (hr : meth.sig.returnType = some .boolean) (hlk : meth.locks = false) (N : Nat) (r : Int32) (f_self : Nat → Nat → Int32) (s_self : Nat → Nat → Int32) (kx261 : Int32 → Option ((Int32) × (Nat → Nat → Int32))) (hkx261 : ∀ (v6 : Int32), kx261 v6 = some (r, f_self) → Gd p l e rm_Md_comesUpon s m args below meth c 0 0 (MQ below (sq D classes (tyK K) (some (.int r)) [wd_Md K a_self (a_least 0) f_self] A) args s 0 0 A) D classes A 10 261 [wd_Md K a_self (a_least 0) s_self] [(6, .int v6)] []) : ∀ (n : Nat) (v6 v7 : Int32), l_Md_comesUpon_142 N s_self kx261 n v6 v7 = some (r, f_self) → Gd p l e rm_Md_comesUpon s m args below meth c 0 0 (MQ below (sq D classes (tyK K) (some (.int r)) [wd_Md K a_self (a_least 0) f_self] A) args s 0 0 A) D classes A 10 142 [wd_Md K a_self (a_least 0) s_self] [(0, .ref (a_self 0)), (6, .int v6), (7, .int v7)] [] := by
  intro n
  induction n with
  | zero => intro v6 v7 h; have h : (none : Option ((Int32) × (Nat → Nat → Int32))) = some _ := h; cases h
  | succ n ih =>
    intro v6 v7 h
    exact t_Md_comesUpon_142 a_self a_least X hr hlk N r f_self s_self v6 v7 (l_Md_comesUpon_142 N s_self kx261 n) ih kx261 hkx261 h
def f_Md_comesUpon_121 (N : Nat) (s_self : Nat → Nat → Int32) (v3 v4 v6 : Int32) : Option ((Int32) × (Nat → Nat → Int32)) :=
  if v6 = 0 then
    l_Md_comesUpon_142 N s_self (fun v6 => f_Md_comesUpon_261 N s_self v6) N 0 0
  else
    if v4 = v3 then
      l_Md_comesUpon_142 N s_self (fun v6 => f_Md_comesUpon_261 N s_self v6) N 1 0
    else
      l_Md_comesUpon_142 N s_self (fun v6 => f_Md_comesUpon_261 N s_self v6) N 0 0
set_option maxHeartbeats 4000000 in
set_option maxRecDepth 100000 in
theorem t_Md_comesUpon_121 {p : Program} {l : Launch} {e : Env} {s : State} {m : MethodId} {args : Array Value} {below : List Frame} {meth : Method} {c : Code} {A : Nat → Prop} {D : va_G} {K : Nat → ClassId} (a_self a_least : Nat → Nat) (X : gx p s m args c b_Md_comesUpon 10 R_Md w_Md_comesUpon D classes (tyK K) A) (hr : meth.sig.returnType = some .boolean) (hlk : meth.locks = false) (N : Nat) (r : Int32) (f_self : Nat → Nat → Int32) (s_self : Nat → Nat → Int32) (v3 v4 v6 : Int32) (h : f_Md_comesUpon_121 N s_self v3 v4 v6 = some (r, f_self)) : Gd p l e rm_Md_comesUpon s m args below meth c 0 0 (MQ below (sq D classes (tyK K) (some (.int r)) [wd_Md K a_self (a_least 0) f_self] A) args s 0 0 A) D classes A 10 121 [wd_Md K a_self (a_least 0) s_self] [(0, .ref (a_self 0)), (3, .int v3), (4, .int v4), (6, .int v6)] [] := by
  unfold f_Md_comesUpon_121 at h
  refine gd_iload X d_Md_comesUpon_121 3 rfl ?_
  refine gd_if_eq X (tgt := 136) d_Md_comesUpon_123 (by decide) (fun c_1 => ?_) (fun c_1 => ?_)
  · replace h := it_p c_1 h
    refine gd_iconst X (v := 0) d_Md_comesUpon_136 (by decide) ?_
    refine gd_istore X (lv' := [(6, .int 0), (0, .ref (a_self 0)), (3, .int v3), (4, .int v4)]) d_Md_comesUpon_137 (by decide) rfl ?_
    refine gd_iconst X (v := 0) d_Md_comesUpon_139 (by decide) ?_
    refine gd_istore X (lv' := [(7, .int 0), (6, .int 0), (0, .ref (a_self 0)), (3, .int v3), (4, .int v4)]) d_Md_comesUpon_140 (by decide) rfl ?_
    refine gd_loc (lv' := [(0, .ref (a_self 0)), (6, .int 0), (7, .int 0)]) [2, 1, 0] rfl ?_
    exact tl_Md_comesUpon_142 a_self a_least X hr hlk N r f_self s_self (fun v6 => f_Md_comesUpon_261 N s_self v6) (fun v6 h => t_Md_comesUpon_261 a_self a_least X hr hlk N r f_self s_self v6 h) N 0 0 h
  · replace h := it_n c_1 h
    refine gd_iload X d_Md_comesUpon_126 2 rfl ?_
    refine gd_iload_n X d_Md_comesUpon_128 1 rfl ?_
    refine gd_icmp_ne X (tgt := 136) d_Md_comesUpon_129 (by decide) (fun c_2 => ?_) (fun c_2 => ?_)
    · replace h := it_n c_2 h
      refine gd_iconst X (v := 0) d_Md_comesUpon_136 (by decide) ?_
      refine gd_istore X (lv' := [(6, .int 0), (0, .ref (a_self 0)), (3, .int v3), (4, .int v4)]) d_Md_comesUpon_137 (by decide) rfl ?_
      refine gd_iconst X (v := 0) d_Md_comesUpon_139 (by decide) ?_
      refine gd_istore X (lv' := [(7, .int 0), (6, .int 0), (0, .ref (a_self 0)), (3, .int v3), (4, .int v4)]) d_Md_comesUpon_140 (by decide) rfl ?_
      refine gd_loc (lv' := [(0, .ref (a_self 0)), (6, .int 0), (7, .int 0)]) [2, 1, 0] rfl ?_
      exact tl_Md_comesUpon_142 a_self a_least X hr hlk N r f_self s_self (fun v6 => f_Md_comesUpon_261 N s_self v6) (fun v6 h => t_Md_comesUpon_261 a_self a_least X hr hlk N r f_self s_self v6 h) N 0 0 h
    · replace h := it_p c_2 h
      refine gd_iconst X (v := 1) d_Md_comesUpon_132 (by decide) ?_
      refine gd_goto X (tgt := 137) d_Md_comesUpon_133 (by decide) ?_
      refine gd_istore X (lv' := [(6, .int 1), (0, .ref (a_self 0)), (3, .int v3), (4, .int v4)]) d_Md_comesUpon_137 (by decide) rfl ?_
      refine gd_iconst X (v := 0) d_Md_comesUpon_139 (by decide) ?_
      refine gd_istore X (lv' := [(7, .int 0), (6, .int 1), (0, .ref (a_self 0)), (3, .int v3), (4, .int v4)]) d_Md_comesUpon_140 (by decide) rfl ?_
      refine gd_loc (lv' := [(0, .ref (a_self 0)), (6, .int 1), (7, .int 0)]) [2, 1, 0] rfl ?_
      exact tl_Md_comesUpon_142 a_self a_least X hr hlk N r f_self s_self (fun v6 => f_Md_comesUpon_261 N s_self v6) (fun v6 h => t_Md_comesUpon_261 a_self a_least X hr hlk N r f_self s_self v6 h) N 1 0 h
def l_Md_comesUpon_12 (N : Nat) (v1 v3 : Int32) (kx121 : (Nat → Nat → Int32) → Int32 → Int32 → Option ((Int32) × (Nat → Nat → Int32))) : Nat → (Nat → Nat → Int32) → Int32 → Int32 → Int32 → Int32 → Option ((Int32) × (Nat → Nat → Int32))
  | 0, _, _, _, _, _ => none
  | n + 1, s_self, v4, v5, v6, v7 => f_Md_comesUpon_12 N (l_Md_comesUpon_12 N v1 v3 kx121 n) kx121 s_self v1 v3 v4 v5 v6 v7
set_option maxHeartbeats 4000000 in
set_option maxRecDepth 100000 in
theorem tl_Md_comesUpon_12 {p : Program} {l : Launch} {e : Env} {s : State} {m : MethodId} {args : Array Value} {below : List Frame} {meth : Method} {c : Code} {A : Nat → Prop} {D : va_G} {K : Nat → ClassId} (a_self a_least : Nat → Nat) (X : gx p s m args c b_Md_comesUpon 10 R_Md w_Md_comesUpon D classes (tyK K) A) (hr : meth.sig.returnType = some .boolean) (hlk : meth.locks = false) (N : Nat) (r : Int32) (f_self : Nat → Nat → Int32) (v1 v3 : Int32) (kx121 : (Nat → Nat → Int32) → Int32 → Int32 → Option ((Int32) × (Nat → Nat → Int32))) (hkx121 : ∀ (s_self : Nat → Nat → Int32) (v4 v6 : Int32), kx121 s_self v4 v6 = some (r, f_self) → Gd p l e rm_Md_comesUpon s m args below meth c 0 0 (MQ below (sq D classes (tyK K) (some (.int r)) [wd_Md K a_self (a_least 0) f_self] A) args s 0 0 A) D classes A 10 121 [wd_Md K a_self (a_least 0) s_self] [(0, .ref (a_self 0)), (3, .int v3), (4, .int v4), (6, .int v6)] []) : ∀ (n : Nat) (s_self : Nat → Nat → Int32) (v4 v5 v6 v7 : Int32), l_Md_comesUpon_12 N v1 v3 kx121 n s_self v4 v5 v6 v7 = some (r, f_self) → Gd p l e rm_Md_comesUpon s m args below meth c 0 0 (MQ below (sq D classes (tyK K) (some (.int r)) [wd_Md K a_self (a_least 0) f_self] A) args s 0 0 A) D classes A 10 12 [wd_Md K a_self (a_least 0) s_self] [(0, .ref (a_self 0)), (1, .int v1), (3, .int v3), (4, .int v4), (5, .int v5), (6, .int v6), (7, .int v7)] [] := by
  intro n
  induction n with
  | zero => intro s_self v4 v5 v6 v7 h; have h : (none : Option ((Int32) × (Nat → Nat → Int32))) = some _ := h; cases h
  | succ n ih =>
    intro s_self v4 v5 v6 v7 h
    exact t_Md_comesUpon_12 a_self a_least X hr hlk N r f_self s_self v1 v3 v4 v5 v6 v7 (l_Md_comesUpon_12 N v1 v3 kx121 n) ih kx121 hkx121 h
def f_Md_comesUpon_0 (N : Nat) (s_self : Nat → Nat → Int32) (v1 v2 v3 : Int32) : Option ((Int32) × (Nat → Nat → Int32)) :=
  l_Md_comesUpon_12 N v1 v3 (fun s_self v4 v6 => f_Md_comesUpon_121 N s_self v3 v4 v6) N s_self v2 0 1 0
set_option maxHeartbeats 4000000 in
set_option maxRecDepth 100000 in
theorem t_Md_comesUpon_0 {p : Program} {l : Launch} {e : Env} {s : State} {m : MethodId} {args : Array Value} {below : List Frame} {meth : Method} {c : Code} {A : Nat → Prop} {D : va_G} {K : Nat → ClassId} (a_self a_least : Nat → Nat) (X : gx p s m args c b_Md_comesUpon 10 R_Md w_Md_comesUpon D classes (tyK K) A) (hr : meth.sig.returnType = some .boolean) (hlk : meth.locks = false) (N : Nat) (r : Int32) (f_self : Nat → Nat → Int32) (s_self : Nat → Nat → Int32) (v1 v2 v3 : Int32) (h : f_Md_comesUpon_0 N s_self v1 v2 v3 = some (r, f_self)) : Gd p l e rm_Md_comesUpon s m args below meth c 0 0 (MQ below (sq D classes (tyK K) (some (.int r)) [wd_Md K a_self (a_least 0) f_self] A) args s 0 0 A) D classes A 10 0 [wd_Md K a_self (a_least 0) s_self] [(0, .ref (a_self 0)), (1, .int v1), (2, .int v2), (3, .int v3)] [] := by
  unfold f_Md_comesUpon_0 at h
  refine gd_iload_n X d_Md_comesUpon_0 2 rfl ?_
  refine gd_istore X (lv' := [(4, .int v2), (0, .ref (a_self 0)), (1, .int v1), (2, .int v2), (3, .int v3)]) d_Md_comesUpon_1 (by decide) rfl ?_
  refine gd_iconst X (v := 0) d_Md_comesUpon_3 (by decide) ?_
  refine gd_istore X (lv' := [(5, .int 0), (4, .int v2), (0, .ref (a_self 0)), (1, .int v1), (2, .int v2), (3, .int v3)]) d_Md_comesUpon_4 (by decide) rfl ?_
  refine gd_iconst X (v := 1) d_Md_comesUpon_6 (by decide) ?_
  refine gd_istore X (lv' := [(6, .int 1), (5, .int 0), (4, .int v2), (0, .ref (a_self 0)), (1, .int v1), (2, .int v2), (3, .int v3)]) d_Md_comesUpon_7 (by decide) rfl ?_
  refine gd_iconst X (v := 0) d_Md_comesUpon_9 (by decide) ?_
  refine gd_istore X (lv' := [(7, .int 0), (6, .int 1), (5, .int 0), (4, .int v2), (0, .ref (a_self 0)), (1, .int v1), (2, .int v2), (3, .int v3)]) d_Md_comesUpon_10 (by decide) rfl ?_
  refine gd_loc (lv' := [(0, .ref (a_self 0)), (1, .int v1), (3, .int v3), (4, .int v2), (5, .int 0), (6, .int 1), (7, .int 0)]) [4, 5, 7, 3, 2, 1, 0] rfl ?_
  exact tl_Md_comesUpon_12 a_self a_least X hr hlk N r f_self v1 v3 (fun s_self v4 v6 => f_Md_comesUpon_121 N s_self v3 v4 v6) (fun s_self v4 v6 h => t_Md_comesUpon_121 a_self a_least X hr hlk N r f_self s_self v3 v4 v6 h) N s_self v2 0 1 0 h
def m_Md_comesUpon (N : Nat) (s_self : Nat → Nat → Int32) (v1 v2 v3 : Int32) : Option ((Int32) × (Nat → Nat → Int32)) := f_Md_comesUpon_0 N s_self v1 v2 v3
set_option maxHeartbeats 4000000 in
set_option maxRecDepth 100000 in
theorem c_Md_comesUpon (l : Launch) (D : va_G) (K : Nat → ClassId) (a_self a_least : Nat → Nat) (N : Nat) (s_self : Nat → Nat → Int32) (v1 v2 v3 : Int32) (r : Int32) (f_self : Nat → Nat → Int32) (h : m_Md_comesUpon N s_self v1 v2 v3 = some (r, f_self)) : SMet l y_Md_comesUpon w_Md_comesUpon rm_Md_comesUpon D classes (tyK K) [.ref (a_self 0), .int v1, .int v2, .int v3] (some (.int r)) [wd_Md K a_self (a_least 0) s_self] [wd_Md K a_self (a_least 0) f_self] := by
  refine sm_of R_Md (by decide) rfl rfl (Nat.le_of_ble_eq_true rfl) ?_
  intro p e s m below meth c A X hr hlk
  refine gd_loc (lv' := [(0, .ref (a_self 0)), (1, .int v1), (2, .int v2), (3, .int v3)]) [0, 1, 2, 3] rfl ?_
  exact t_Md_comesUpon_0 a_self a_least X hr hlk N r f_self s_self v1 v2 v3 h
