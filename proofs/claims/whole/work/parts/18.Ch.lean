abbrev b_Ch_fit : ByteArray := prog_2_method_15_code
def y_Ch_fit : MethodName := ⟨R_Ch, "fit", "(IIIIII)V"⟩
def w_Ch_fit : List Cond := .code y_Ch_fit b_Ch_fit 12 none :: TB
theorem k_Ch_fit : Cond.code y_Ch_fit b_Ch_fit 12 none ∈ TB := tb_of 478 (by decide +kernel) (by decide +kernel)
theorem d_Ch_fit_0 : decode b_Ch_fit 0 = .ok (.aload_n 0, 1) := by decide +kernel
theorem d_Ch_fit_1 : decode b_Ch_fit 1 = .ok (.getfield 9, 3) := by decide +kernel
theorem d_Ch_fit_4 : decode b_Ch_fit 4 = .ok (.iload_n 1, 1) := by decide +kernel
theorem d_Ch_fit_5 : decode b_Ch_fit 5 = .ok (.invokevirtual 142, 3) := by decide +kernel
theorem d_Ch_fit_8 : decode b_Ch_fit 8 = .ok (.iload 4, 2) := by decide +kernel
theorem d_Ch_fit_10 : decode b_Ch_fit 10 = .ok (.isub, 1) := by decide +kernel
theorem d_Ch_fit_11 : decode b_Ch_fit 11 = .ok (.iconst 1, 1) := by decide +kernel
theorem d_Ch_fit_12 : decode b_Ch_fit 12 = .ok (.isub, 1) := by decide +kernel
theorem d_Ch_fit_13 : decode b_Ch_fit 13 = .ok (.istore 7, 2) := by decide +kernel
theorem d_Ch_fit_15 : decode b_Ch_fit 15 = .ok (.iload 7, 2) := by decide +kernel
theorem d_Ch_fit_17 : decode b_Ch_fit 17 = .ok (.ifCond .ge 17, 3) := by decide +kernel
theorem d_Ch_fit_20 : decode b_Ch_fit 20 = .ok (.iload 5, 2) := by decide +kernel
theorem d_Ch_fit_22 : decode b_Ch_fit 22 = .ok (.iload_n 3, 1) := by decide +kernel
theorem d_Ch_fit_23 : decode b_Ch_fit 23 = .ok (.if_icmp .ne 10, 3) := by decide +kernel
theorem d_Ch_fit_26 : decode b_Ch_fit 26 = .ok (.aload_n 0, 1) := by decide +kernel
theorem d_Ch_fit_27 : decode b_Ch_fit 27 = .ok (.iload_n 1, 1) := by decide +kernel
theorem d_Ch_fit_28 : decode b_Ch_fit 28 = .ok (.iload_n 2, 1) := by decide +kernel
theorem d_Ch_fit_29 : decode b_Ch_fit 29 = .ok (.iload_n 3, 1) := by decide +kernel
theorem d_Ch_fit_30 : decode b_Ch_fit 30 = .ok (.invokevirtual 145, 3) := by decide +kernel
theorem d_Ch_fit_33 : decode b_Ch_fit 33 = .ok (.return_, 1) := by decide +kernel
theorem d_Ch_fit_34 : decode b_Ch_fit 34 = .ok (.iload_n 3, 1) := by decide +kernel
theorem d_Ch_fit_35 : decode b_Ch_fit 35 = .ok (.iload 7, 2) := by decide +kernel
theorem d_Ch_fit_37 : decode b_Ch_fit 37 = .ok (.isub, 1) := by decide +kernel
theorem d_Ch_fit_38 : decode b_Ch_fit 38 = .ok (.istore 8, 2) := by decide +kernel
theorem d_Ch_fit_40 : decode b_Ch_fit 40 = .ok (.iload 5, 2) := by decide +kernel
theorem d_Ch_fit_42 : decode b_Ch_fit 42 = .ok (.iload 8, 2) := by decide +kernel
theorem d_Ch_fit_44 : decode b_Ch_fit 44 = .ok (.if_icmp .lt 4, 3) := by decide +kernel
theorem d_Ch_fit_47 : decode b_Ch_fit 47 = .ok (.return_, 1) := by decide +kernel
theorem d_Ch_fit_48 : decode b_Ch_fit 48 = .ok (.aload_n 0, 1) := by decide +kernel
theorem d_Ch_fit_49 : decode b_Ch_fit 49 = .ok (.getfield 9, 3) := by decide +kernel
theorem d_Ch_fit_52 : decode b_Ch_fit 52 = .ok (.iload_n 1, 1) := by decide +kernel
theorem d_Ch_fit_53 : decode b_Ch_fit 53 = .ok (.iload 4, 2) := by decide +kernel
theorem d_Ch_fit_55 : decode b_Ch_fit 55 = .ok (.invokevirtual 149, 3) := by decide +kernel
theorem d_Ch_fit_58 : decode b_Ch_fit 58 = .ok (.istore 9, 2) := by decide +kernel
theorem d_Ch_fit_60 : decode b_Ch_fit 60 = .ok (.iload 9, 2) := by decide +kernel
theorem d_Ch_fit_62 : decode b_Ch_fit 62 = .ok (.ifCond .lt 9, 3) := by decide +kernel
theorem d_Ch_fit_65 : decode b_Ch_fit 65 = .ok (.iload 9, 2) := by decide +kernel
theorem d_Ch_fit_67 : decode b_Ch_fit 67 = .ok (.iconst 4, 1) := by decide +kernel
theorem d_Ch_fit_68 : decode b_Ch_fit 68 = .ok (.if_icmp .lt 42, 3) := by decide +kernel
theorem d_Ch_fit_71 : decode b_Ch_fit 71 = .ok (.aload_n 0, 1) := by decide +kernel
theorem d_Ch_fit_72 : decode b_Ch_fit 72 = .ok (.iload 5, 2) := by decide +kernel
theorem d_Ch_fit_74 : decode b_Ch_fit 74 = .ok (.invokevirtual 133, 3) := by decide +kernel
theorem d_Ch_fit_77 : decode b_Ch_fit 77 = .ok (.aload_n 0, 1) := by decide +kernel
theorem d_Ch_fit_78 : decode b_Ch_fit 78 = .ok (.getfield 9, 3) := by decide +kernel
theorem d_Ch_fit_81 : decode b_Ch_fit 81 = .ok (.iload_n 1, 1) := by decide +kernel
theorem d_Ch_fit_82 : decode b_Ch_fit 82 = .ok (.iload 4, 2) := by decide +kernel
theorem d_Ch_fit_84 : decode b_Ch_fit 84 = .ok (.invokevirtual 152, 3) := by decide +kernel
theorem d_Ch_fit_87 : decode b_Ch_fit 87 = .ok (.if_icmp .ne 185, 3) := by decide +kernel
theorem d_Ch_fit_90 : decode b_Ch_fit 90 = .ok (.aload_n 0, 1) := by decide +kernel
theorem d_Ch_fit_91 : decode b_Ch_fit 91 = .ok (.iload_n 1, 1) := by decide +kernel
theorem d_Ch_fit_92 : decode b_Ch_fit 92 = .ok (.iload_n 2, 1) := by decide +kernel
theorem d_Ch_fit_93 : decode b_Ch_fit 93 = .ok (.iload_n 3, 1) := by decide +kernel
theorem d_Ch_fit_94 : decode b_Ch_fit 94 = .ok (.iload 4, 2) := by decide +kernel
theorem d_Ch_fit_96 : decode b_Ch_fit 96 = .ok (.iconst 1, 1) := by decide +kernel
theorem d_Ch_fit_97 : decode b_Ch_fit 97 = .ok (.iadd, 1) := by decide +kernel
theorem d_Ch_fit_98 : decode b_Ch_fit 98 = .ok (.iload 5, 2) := by decide +kernel
theorem d_Ch_fit_100 : decode b_Ch_fit 100 = .ok (.iconst 1, 1) := by decide +kernel
theorem d_Ch_fit_101 : decode b_Ch_fit 101 = .ok (.iadd, 1) := by decide +kernel
theorem d_Ch_fit_102 : decode b_Ch_fit 102 = .ok (.iload 6, 2) := by decide +kernel
theorem d_Ch_fit_104 : decode b_Ch_fit 104 = .ok (.invokevirtual 120, 3) := by decide +kernel
theorem d_Ch_fit_107 : decode b_Ch_fit 107 = .ok (.goto 165, 3) := by decide +kernel
theorem d_Ch_fit_110 : decode b_Ch_fit 110 = .ok (.iload 9, 2) := by decide +kernel
theorem d_Ch_fit_112 : decode b_Ch_fit 112 = .ok (.iload 6, 2) := by decide +kernel
theorem d_Ch_fit_114 : decode b_Ch_fit 114 = .ok (.if_icmp .ge 69, 3) := by decide +kernel
theorem d_Ch_fit_117 : decode b_Ch_fit 117 = .ok (.iload 5, 2) := by decide +kernel
theorem d_Ch_fit_119 : decode b_Ch_fit 119 = .ok (.aload_n 0, 1) := by decide +kernel
theorem d_Ch_fit_120 : decode b_Ch_fit 120 = .ok (.getfield 38, 3) := by decide +kernel
theorem d_Ch_fit_123 : decode b_Ch_fit 123 = .ok (.iload 9, 2) := by decide +kernel
theorem d_Ch_fit_125 : decode b_Ch_fit 125 = .ok (.iaload, 1) := by decide +kernel
theorem d_Ch_fit_126 : decode b_Ch_fit 126 = .ok (.iadd, 1) := by decide +kernel
theorem d_Ch_fit_127 : decode b_Ch_fit 127 = .ok (.aload_n 0, 1) := by decide +kernel
theorem d_Ch_fit_128 : decode b_Ch_fit 128 = .ok (.getfield 35, 3) := by decide +kernel
theorem d_Ch_fit_131 : decode b_Ch_fit 131 = .ok (.iload 9, 2) := by decide +kernel
theorem d_Ch_fit_133 : decode b_Ch_fit 133 = .ok (.iaload, 1) := by decide +kernel
theorem d_Ch_fit_134 : decode b_Ch_fit 134 = .ok (.isub, 1) := by decide +kernel
theorem d_Ch_fit_135 : decode b_Ch_fit 135 = .ok (.istore 10, 2) := by decide +kernel
theorem d_Ch_fit_137 : decode b_Ch_fit 137 = .ok (.iload 10, 2) := by decide +kernel
theorem d_Ch_fit_139 : decode b_Ch_fit 139 = .ok (.iload 8, 2) := by decide +kernel
theorem d_Ch_fit_141 : decode b_Ch_fit 141 = .ok (.if_icmp .gt 39, 3) := by decide +kernel
theorem d_Ch_fit_144 : decode b_Ch_fit 144 = .ok (.aload_n 0, 1) := by decide +kernel
theorem d_Ch_fit_145 : decode b_Ch_fit 145 = .ok (.aload_n 0, 1) := by decide +kernel
theorem d_Ch_fit_146 : decode b_Ch_fit 146 = .ok (.getfield 35, 3) := by decide +kernel
theorem d_Ch_fit_149 : decode b_Ch_fit 149 = .ok (.iload 9, 2) := by decide +kernel
theorem d_Ch_fit_151 : decode b_Ch_fit 151 = .ok (.iaload, 1) := by decide +kernel
theorem d_Ch_fit_152 : decode b_Ch_fit 152 = .ok (.iload 5, 2) := by decide +kernel
theorem d_Ch_fit_154 : decode b_Ch_fit 154 = .ok (.iload 10, 2) := by decide +kernel
theorem d_Ch_fit_156 : decode b_Ch_fit 156 = .ok (.iload 5, 2) := by decide +kernel
theorem d_Ch_fit_158 : decode b_Ch_fit 158 = .ok (.isub, 1) := by decide +kernel
theorem d_Ch_fit_159 : decode b_Ch_fit 159 = .ok (.invokevirtual 155, 3) := by decide +kernel
theorem d_Ch_fit_162 : decode b_Ch_fit 162 = .ok (.ifCond .eq 18, 3) := by decide +kernel
theorem d_Ch_fit_165 : decode b_Ch_fit 165 = .ok (.aload_n 0, 1) := by decide +kernel
theorem d_Ch_fit_166 : decode b_Ch_fit 166 = .ok (.iload_n 1, 1) := by decide +kernel
theorem d_Ch_fit_167 : decode b_Ch_fit 167 = .ok (.iload_n 2, 1) := by decide +kernel
theorem d_Ch_fit_168 : decode b_Ch_fit 168 = .ok (.iload_n 3, 1) := by decide +kernel
theorem d_Ch_fit_169 : decode b_Ch_fit 169 = .ok (.iload 4, 2) := by decide +kernel
theorem d_Ch_fit_171 : decode b_Ch_fit 171 = .ok (.iconst 1, 1) := by decide +kernel
theorem d_Ch_fit_172 : decode b_Ch_fit 172 = .ok (.iadd, 1) := by decide +kernel
theorem d_Ch_fit_173 : decode b_Ch_fit 173 = .ok (.iload 10, 2) := by decide +kernel
theorem d_Ch_fit_175 : decode b_Ch_fit 175 = .ok (.iload 6, 2) := by decide +kernel
theorem d_Ch_fit_177 : decode b_Ch_fit 177 = .ok (.invokevirtual 120, 3) := by decide +kernel
theorem d_Ch_fit_180 : decode b_Ch_fit 180 = .ok (.goto 92, 3) := by decide +kernel
theorem d_Ch_fit_183 : decode b_Ch_fit 183 = .ok (.aload_n 0, 1) := by decide +kernel
theorem d_Ch_fit_184 : decode b_Ch_fit 184 = .ok (.getfield 9, 3) := by decide +kernel
theorem d_Ch_fit_187 : decode b_Ch_fit 187 = .ok (.iload_n 1, 1) := by decide +kernel
theorem d_Ch_fit_188 : decode b_Ch_fit 188 = .ok (.iload 9, 2) := by decide +kernel
theorem d_Ch_fit_190 : decode b_Ch_fit 190 = .ok (.invokevirtual 100, 3) := by decide +kernel
theorem d_Ch_fit_193 : decode b_Ch_fit 193 = .ok (.istore 10, 2) := by decide +kernel
theorem d_Ch_fit_195 : decode b_Ch_fit 195 = .ok (.iload 7, 2) := by decide +kernel
theorem d_Ch_fit_197 : decode b_Ch_fit 197 = .ok (.ifCond .ne 8, 3) := by decide +kernel
theorem d_Ch_fit_200 : decode b_Ch_fit 200 = .ok (.iload 8, 2) := by decide +kernel
theorem d_Ch_fit_202 : decode b_Ch_fit 202 = .ok (.goto 7, 3) := by decide +kernel
theorem d_Ch_fit_205 : decode b_Ch_fit 205 = .ok (.iload 5, 2) := by decide +kernel
theorem d_Ch_fit_207 : decode b_Ch_fit 207 = .ok (.iconst 1, 1) := by decide +kernel
theorem d_Ch_fit_208 : decode b_Ch_fit 208 = .ok (.iadd, 1) := by decide +kernel
theorem d_Ch_fit_209 : decode b_Ch_fit 209 = .ok (.istore 11, 2) := by decide +kernel
theorem d_Ch_fit_211 : decode b_Ch_fit 211 = .ok (.iload 11, 2) := by decide +kernel
theorem d_Ch_fit_213 : decode b_Ch_fit 213 = .ok (.iload 8, 2) := by decide +kernel
theorem d_Ch_fit_215 : decode b_Ch_fit 215 = .ok (.if_icmp .gt 57, 3) := by decide +kernel
theorem d_Ch_fit_218 : decode b_Ch_fit 218 = .ok (.aload_n 0, 1) := by decide +kernel
theorem d_Ch_fit_219 : decode b_Ch_fit 219 = .ok (.iload 10, 2) := by decide +kernel
theorem d_Ch_fit_221 : decode b_Ch_fit 221 = .ok (.iload 5, 2) := by decide +kernel
theorem d_Ch_fit_223 : decode b_Ch_fit 223 = .ok (.iload 11, 2) := by decide +kernel
theorem d_Ch_fit_225 : decode b_Ch_fit 225 = .ok (.invokevirtual 159, 3) := by decide +kernel
theorem d_Ch_fit_228 : decode b_Ch_fit 228 = .ok (.ifCond .le 38, 3) := by decide +kernel
theorem d_Ch_fit_231 : decode b_Ch_fit 231 = .ok (.aload_n 0, 1) := by decide +kernel
theorem d_Ch_fit_232 : decode b_Ch_fit 232 = .ok (.getfield 35, 3) := by decide +kernel
theorem d_Ch_fit_235 : decode b_Ch_fit 235 = .ok (.iload 9, 2) := by decide +kernel
theorem d_Ch_fit_237 : decode b_Ch_fit 237 = .ok (.iload 5, 2) := by decide +kernel
theorem d_Ch_fit_239 : decode b_Ch_fit 239 = .ok (.iastore, 1) := by decide +kernel
theorem d_Ch_fit_240 : decode b_Ch_fit 240 = .ok (.aload_n 0, 1) := by decide +kernel
theorem d_Ch_fit_241 : decode b_Ch_fit 241 = .ok (.getfield 38, 3) := by decide +kernel
theorem d_Ch_fit_244 : decode b_Ch_fit 244 = .ok (.iload 9, 2) := by decide +kernel
theorem d_Ch_fit_246 : decode b_Ch_fit 246 = .ok (.iload 11, 2) := by decide +kernel
theorem d_Ch_fit_248 : decode b_Ch_fit 248 = .ok (.iastore, 1) := by decide +kernel
theorem d_Ch_fit_249 : decode b_Ch_fit 249 = .ok (.aload_n 0, 1) := by decide +kernel
theorem d_Ch_fit_250 : decode b_Ch_fit 250 = .ok (.iload_n 1, 1) := by decide +kernel
theorem d_Ch_fit_251 : decode b_Ch_fit 251 = .ok (.iload_n 2, 1) := by decide +kernel
theorem d_Ch_fit_252 : decode b_Ch_fit 252 = .ok (.iload_n 3, 1) := by decide +kernel
theorem d_Ch_fit_253 : decode b_Ch_fit 253 = .ok (.iload 4, 2) := by decide +kernel
theorem d_Ch_fit_255 : decode b_Ch_fit 255 = .ok (.iconst 1, 1) := by decide +kernel
theorem d_Ch_fit_256 : decode b_Ch_fit 256 = .ok (.iadd, 1) := by decide +kernel
theorem d_Ch_fit_257 : decode b_Ch_fit 257 = .ok (.iload 11, 2) := by decide +kernel
theorem d_Ch_fit_259 : decode b_Ch_fit 259 = .ok (.iload 6, 2) := by decide +kernel
theorem d_Ch_fit_261 : decode b_Ch_fit 261 = .ok (.iconst 1, 1) := by decide +kernel
theorem d_Ch_fit_262 : decode b_Ch_fit 262 = .ok (.iadd, 1) := by decide +kernel
theorem d_Ch_fit_263 : decode b_Ch_fit 263 = .ok (.invokevirtual 120, 3) := by decide +kernel
theorem d_Ch_fit_266 : decode b_Ch_fit 266 = .ok (.iinc 11 1, 3) := by decide +kernel
theorem d_Ch_fit_269 : decode b_Ch_fit 269 = .ok (.goto (-58), 3) := by decide +kernel
theorem d_Ch_fit_272 : decode b_Ch_fit 272 = .ok (.return_, 1) := by decide +kernel
theorem ml_Ch_152 : Cond.methodLink R_Ch 152 ⟨"RuleTrees$Grammar", "symbolAt", "(II)I"⟩ ∈ TB := tb_of 516 (by decide +kernel) (by decide +kernel)
theorem u_Gr_symbolAt : (Cond.instanceMethod y_Gr_symbolAt ∈ TB ∧ Cond.selects R_Gr y_Gr_symbolAt y_Gr_symbolAt ∈ TB) ∧ Cond.initialized R_Gr ∈ TB ∧ Cond.code y_Gr_symbolAt b_Gr_symbolAt 3 (some .int) ∈ TB := ⟨⟨(tb_of 517 (by decide +kernel) (by decide +kernel)), (tb_of 518 (by decide +kernel) (by decide +kernel))⟩, (tb_of 63 (by decide +kernel) (by decide +kernel)), k_Gr_symbolAt⟩
theorem ml_Ch_120 : Cond.methodLink R_Ch 120 ⟨"RuleTrees$Chart", "fit", "(IIIIII)V"⟩ ∈ TB := tb_of 475 (by decide +kernel) (by decide +kernel)
theorem u_Ch_fit : (Cond.instanceMethod y_Ch_fit ∈ TB ∧ Cond.selects R_Ch y_Ch_fit y_Ch_fit ∈ TB) ∧ Cond.initialized R_Ch ∈ TB ∧ Cond.code y_Ch_fit b_Ch_fit 12 none ∈ TB := ⟨⟨(tb_of 477 (by decide +kernel) (by decide +kernel)), (tb_of 12 (by decide +kernel) (by decide +kernel))⟩, (tb_of 64 (by decide +kernel) (by decide +kernel)), k_Ch_fit⟩
theorem ml_Ch_142 : Cond.methodLink R_Ch 142 ⟨"RuleTrees$Grammar", "lengthOfRule", "(I)I"⟩ ∈ TB := tb_of 479 (by decide +kernel) (by decide +kernel)
theorem ml_Ch_149 : Cond.methodLink R_Ch 149 ⟨"RuleTrees$Grammar", "slotAt", "(II)I"⟩ ∈ TB := tb_of 512 (by decide +kernel) (by decide +kernel)
theorem u_Gr_slotAt : (Cond.instanceMethod y_Gr_slotAt ∈ TB ∧ Cond.selects R_Gr y_Gr_slotAt y_Gr_slotAt ∈ TB) ∧ Cond.initialized R_Gr ∈ TB ∧ Cond.code y_Gr_slotAt b_Gr_slotAt 3 (some .int) ∈ TB := ⟨⟨(tb_of 513 (by decide +kernel) (by decide +kernel)), (tb_of 514 (by decide +kernel) (by decide +kernel))⟩, (tb_of 63 (by decide +kernel) (by decide +kernel)), k_Gr_slotAt⟩
theorem ml_Ch_155 : Cond.methodLink R_Ch 155 ⟨"RuleTrees$Chart", "hasSameSymbols", "(III)Z"⟩ ∈ TB := tb_of 520 (by decide +kernel) (by decide +kernel)
theorem u_Ch_hasSameSymbols : (Cond.instanceMethod y_Ch_hasSameSymbols ∈ TB ∧ Cond.selects R_Ch y_Ch_hasSameSymbols y_Ch_hasSameSymbols ∈ TB) ∧ Cond.initialized R_Ch ∈ TB ∧ Cond.code y_Ch_hasSameSymbols b_Ch_hasSameSymbols 5 (some .boolean) ∈ TB := ⟨⟨(tb_of 522 (by decide +kernel) (by decide +kernel)), (tb_of 16 (by decide +kernel) (by decide +kernel))⟩, (tb_of 64 (by decide +kernel) (by decide +kernel)), k_Ch_hasSameSymbols⟩
theorem ml_Ch_145 : Cond.methodLink R_Ch 145 ⟨"RuleTrees$Chart", "addTrees", "(III)V"⟩ ∈ TB := tb_of 480 (by decide +kernel) (by decide +kernel)
theorem u_Ch_addTrees : (Cond.instanceMethod y_Ch_addTrees ∈ TB ∧ Cond.selects R_Ch y_Ch_addTrees y_Ch_addTrees ∈ TB) ∧ Cond.initialized R_Ch ∈ TB ∧ Cond.code y_Ch_addTrees b_Ch_addTrees 9 none ∈ TB := ⟨⟨(tb_of 482 (by decide +kernel) (by decide +kernel)), (tb_of 13 (by decide +kernel) (by decide +kernel))⟩, (tb_of 64 (by decide +kernel) (by decide +kernel)), k_Ch_addTrees⟩
def rm_Ch_fit (d : Nat) : Room := { frames := 4 + d, cells := 0, slots := 0, locals := 102 + d * 31 }
def f_Ch_fit_272 (rec : (Nat → Nat → Int32) → (Nat → Nat → Int32) → (Nat → Nat → Int32) → Int32 → Int32 → Int32 → Int32 → Int32 → Int32 → Option ((Nat → Nat → Int32) × (Nat → Nat → Int32))) (N : Nat) (s_self s_grammar s_table : Nat → Nat → Int32) : Option ((Nat → Nat → Int32) × (Nat → Nat → Int32)) :=
  some (s_self, s_table)
set_option maxHeartbeats 4000000 in
set_option maxRecDepth 100000 in
theorem t_Ch_fit_272 {p : Program} {l : Launch} {e : Env} {s : State} {m : MethodId} {args : Array Value} {below : List Frame} {meth : Method} {c : Code} {A : Nat → Prop} {D : va_G} {K : Nat → ClassId} (a_self a_grammar a_table : Nat → Nat) (X : gx p s m args c b_Ch_fit 12 R_Ch w_Ch_fit D classes (tyK K) A) (hr : meth.sig.returnType = none) (hlk : meth.locks = false) (d : Nat) (rec : (Nat → Nat → Int32) → (Nat → Nat → Int32) → (Nat → Nat → Int32) → Int32 → Int32 → Int32 → Int32 → Int32 → Int32 → Option ((Nat → Nat → Int32) × (Nat → Nat → Int32))) (hrec : ∀ (s_self s_grammar s_table : Nat → Nat → Int32) (v1 v2 v3 v4 v5 v6 : Int32) (f_self f_table : Nat → Nat → Int32), rec s_self s_grammar s_table v1 v2 v3 v4 v5 v6 = some (f_self, f_table) → SMet l y_Ch_fit w_Ch_fit (rm_Ch_fit d) D classes (tyK K) [.ref (a_self 0), .int v1, .int v2, .int v3, .int v4, .int v5, .int v6] none [wd_Ch K a_self (a_grammar 0) (a_table 0) s_self, wd_Gr K a_grammar s_grammar, wd_Tt K a_table s_table] [wd_Ch K a_self (a_grammar 0) (a_table 0) f_self, wd_Gr K a_grammar s_grammar, wd_Tt K a_table f_table]) (N : Nat) (f_self f_table : Nat → Nat → Int32) (s_self s_grammar s_table : Nat → Nat → Int32) (h : f_Ch_fit_272 rec N s_self s_grammar s_table = some (f_self, f_table)) : Gd p l e (rm_Ch_fit (d + 1)) s m args below meth c 0 0 (MQ below (sq D classes (tyK K) none [wd_Ch K a_self (a_grammar 0) (a_table 0) f_self, wd_Gr K a_grammar s_grammar, wd_Tt K a_table f_table] A) args s 0 0 A) D classes A 12 272 [wd_Ch K a_self (a_grammar 0) (a_table 0) s_self, wd_Gr K a_grammar s_grammar, wd_Tt K a_table s_table] [] [] := by
  unfold f_Ch_fit_272 at h
  cases h
  exact gd_vret X hr hlk d_Ch_fit_272
def f_Ch_fit_71 (rec : (Nat → Nat → Int32) → (Nat → Nat → Int32) → (Nat → Nat → Int32) → Int32 → Int32 → Int32 → Int32 → Int32 → Int32 → Option ((Nat → Nat → Int32) × (Nat → Nat → Int32))) (N : Nat) (s_self s_grammar s_table : Nat → Nat → Int32) (v1 v2 v3 v4 v5 v6 : Int32) : Option ((Nat → Nat → Int32) × (Nat → Nat → Int32)) :=
  bd1 (m_Ch_symbolIn s_self v5) fun r_1 =>
  bd1 (m_Gr_symbolAt s_grammar v1 v4) fun r_3 =>
  if r_1 = r_3 then
    bd2 (rec s_self s_grammar s_table v1 v2 v3 (v4 + 1) (v5 + 1) v6) fun s_self_6 s_table_7 =>
    f_Ch_fit_272 rec N s_self_6 s_grammar s_table_7
  else
    f_Ch_fit_272 rec N s_self s_grammar s_table
set_option maxHeartbeats 4000000 in
set_option maxRecDepth 100000 in
theorem t_Ch_fit_71 {p : Program} {l : Launch} {e : Env} {s : State} {m : MethodId} {args : Array Value} {below : List Frame} {meth : Method} {c : Code} {A : Nat → Prop} {D : va_G} {K : Nat → ClassId} (a_self a_grammar a_table : Nat → Nat) (X : gx p s m args c b_Ch_fit 12 R_Ch w_Ch_fit D classes (tyK K) A) (hr : meth.sig.returnType = none) (hlk : meth.locks = false) (d : Nat) (rec : (Nat → Nat → Int32) → (Nat → Nat → Int32) → (Nat → Nat → Int32) → Int32 → Int32 → Int32 → Int32 → Int32 → Int32 → Option ((Nat → Nat → Int32) × (Nat → Nat → Int32))) (hrec : ∀ (s_self s_grammar s_table : Nat → Nat → Int32) (v1 v2 v3 v4 v5 v6 : Int32) (f_self f_table : Nat → Nat → Int32), rec s_self s_grammar s_table v1 v2 v3 v4 v5 v6 = some (f_self, f_table) → SMet l y_Ch_fit w_Ch_fit (rm_Ch_fit d) D classes (tyK K) [.ref (a_self 0), .int v1, .int v2, .int v3, .int v4, .int v5, .int v6] none [wd_Ch K a_self (a_grammar 0) (a_table 0) s_self, wd_Gr K a_grammar s_grammar, wd_Tt K a_table s_table] [wd_Ch K a_self (a_grammar 0) (a_table 0) f_self, wd_Gr K a_grammar s_grammar, wd_Tt K a_table f_table]) (N : Nat) (f_self f_table : Nat → Nat → Int32) (s_self s_grammar s_table : Nat → Nat → Int32) (v1 v2 v3 v4 v5 v6 : Int32) (h : f_Ch_fit_71 rec N s_self s_grammar s_table v1 v2 v3 v4 v5 v6 = some (f_self, f_table)) : Gd p l e (rm_Ch_fit (d + 1)) s m args below meth c 0 0 (MQ below (sq D classes (tyK K) none [wd_Ch K a_self (a_grammar 0) (a_table 0) f_self, wd_Gr K a_grammar s_grammar, wd_Tt K a_table f_table] A) args s 0 0 A) D classes A 12 71 [wd_Ch K a_self (a_grammar 0) (a_table 0) s_self, wd_Gr K a_grammar s_grammar, wd_Tt K a_table s_table] [(0, .ref (a_self 0)), (1, .int v1), (2, .int v2), (3, .int v3), (4, .int v4), (5, .int v5), (6, .int v6)] [] := by
  unfold f_Ch_fit_71 at h
  refine gd_aload_n X d_Ch_fit_71 0 rfl ?_
  refine gd_iload X d_Ch_fit_72 5 rfl ?_
  obtain ⟨r_1, hc_2, h⟩ := bd1_e h
  refine gd_pI X (gd_V X (As := [.int v5]) (rest := []) (c_Ch_symbolIn l D K a_self a_grammar a_table s_self v5 r_1 hc_2) 1 (gi_V ml_Ch_133 u_Ch_symbolIn) rfl ⟨rfl, rfl⟩ (by decide +kernel) ⟨by simp only [rm_Ch_fit, rm_Ch_symbolIn]; omega, by simp only [rm_Ch_fit, rm_Ch_symbolIn]; omega⟩ (ci := 3) rfl rfl rfl rfl rfl rfl (Nat.le_of_ble_eq_true rfl) ⟨Nat.zero_le _, Nat.zero_le _⟩ d_Ch_fit_74) [0] rfl rfl ?_
  refine gd_aload_n X d_Ch_fit_77 0 rfl ?_
  refine gd_get X (ci := 3) (C := R_Ch) (T := F_Ch) (N := 12) (v := .ref (a_grammar 0)) 0 0 rfl rfl rfl (in_Ch _) 0 (by decide) (List.mem_cons_of_mem _ fl_Ch_9) rfl rfl d_Ch_fit_78 ?_
  refine gd_iload_n X d_Ch_fit_81 1 rfl ?_
  refine gd_iload X d_Ch_fit_82 4 rfl ?_
  obtain ⟨r_3, hc_4, h⟩ := bd1_e h
  refine gd_pI X (gd_V X (As := [.int v1, .int v4]) (rest := [.int r_1]) (c_Gr_symbolAt l D K a_grammar s_grammar v1 v4 r_3 hc_4) 2 (gi_V ml_Ch_152 u_Gr_symbolAt) rfl ⟨rfl, rfl⟩ (by decide +kernel) ⟨by simp only [rm_Ch_fit, rm_Gr_symbolAt]; omega, by simp only [rm_Ch_fit, rm_Gr_symbolAt]; omega⟩ (ci := 1) rfl rfl rfl rfl rfl rfl (Nat.le_of_ble_eq_true rfl) ⟨Nat.zero_le _, Nat.zero_le _⟩ d_Ch_fit_84) [1] rfl rfl ?_
  refine gd_icmp_ne X (tgt := 272) d_Ch_fit_87 (by decide) (fun c_5 => ?_) (fun c_5 => ?_)
  · replace h := it_n c_5 h
    refine gd_loc (lv' := []) [] rfl ?_
    exact t_Ch_fit_272 a_self a_grammar a_table X hr hlk d rec hrec N f_self f_table s_self s_grammar s_table h
  · replace h := it_p c_5 h
    refine gd_aload_n X d_Ch_fit_90 0 rfl ?_
    refine gd_iload_n X d_Ch_fit_91 1 rfl ?_
    refine gd_iload_n X d_Ch_fit_92 2 rfl ?_
    refine gd_iload_n X d_Ch_fit_93 3 rfl ?_
    refine gd_iload X d_Ch_fit_94 4 rfl ?_
    refine gd_iconst X (v := 1) d_Ch_fit_96 (by decide) ?_
    refine gd_iadd X d_Ch_fit_97 ?_
    refine gd_iload X d_Ch_fit_98 5 rfl ?_
    refine gd_iconst X (v := 1) d_Ch_fit_100 (by decide) ?_
    refine gd_iadd X d_Ch_fit_101 ?_
    refine gd_iload X d_Ch_fit_102 6 rfl ?_
    obtain ⟨s_self_6, s_table_7, hc_8, h⟩ := bd2_e h
    refine gd_fv X (w1 := [wd_Ch K a_self (a_grammar 0) (a_table 0) s_self_6, wd_Gr K a_grammar s_grammar, wd_Tt K a_table s_table_7]) (gd_V X (As := [.int v1, .int v2, .int v3, .int (v4 + 1), .int (v5 + 1), .int v6]) (rest := []) (hrec s_self s_grammar s_table v1 v2 v3 (v4 + 1) (v5 + 1) v6 s_self_6 s_table_7 hc_8) 6 (gi_V ml_Ch_120 u_Ch_fit) rfl ⟨rfl, rfl⟩ (by decide +kernel) ⟨by simp only [rm_Ch_fit]; omega, by simp only [rm_Ch_fit]; omega⟩ (ci := 3) rfl rfl rfl rfl rfl rfl (Nat.le_of_ble_eq_true rfl) ⟨Nat.zero_le _, Nat.zero_le _⟩ d_Ch_fit_104) ?_
    refine gd_goto X (tgt := 272) d_Ch_fit_107 (by decide) ?_
    refine gd_loc (lv' := []) [] rfl ?_
    exact t_Ch_fit_272 a_self a_grammar a_table X hr hlk d rec hrec N f_self f_table s_self_6 s_grammar s_table_7 h
def f_Ch_fit_211 (rec : (Nat → Nat → Int32) → (Nat → Nat → Int32) → (Nat → Nat → Int32) → Int32 → Int32 → Int32 → Int32 → Int32 → Int32 → Option ((Nat → Nat → Int32) × (Nat → Nat → Int32))) (N : Nat) (kb : (Nat → Nat → Int32) → (Nat → Nat → Int32) → Int32 → Option ((Nat → Nat → Int32) × (Nat → Nat → Int32))) (kx272 : (Nat → Nat → Int32) → (Nat → Nat → Int32) → Option ((Nat → Nat → Int32) × (Nat → Nat → Int32))) (s_self s_grammar s_table : Nat → Nat → Int32) (v1 v2 v3 v4 v5 v6 v8 v9 v10 v11 : Int32) : Option ((Nat → Nat → Int32) × (Nat → Nat → Int32)) :=
  if v8 < v11 then
    kx272 s_self s_table
  else
    bd1 (m_Ch_waysOf s_self v10 v5 v11) fun r_2 =>
    if r_2 ≤ 0 then
      nm (v11 + 1) fun v11_5 =>
      kb s_self s_table v11_5
    else
      ck v9 4 <| nm (st2 s_self 5 (Int32.toNatClampNeg v9) v5) fun s_self_7 =>
      ck v9 4 <| nm (st2 s_self_7 6 (Int32.toNatClampNeg v9) v11) fun s_self_9 =>
      bd2 (rec s_self_9 s_grammar s_table v1 v2 v3 (v4 + 1) v11 (v6 + 1)) fun s_self_10 s_table_11 =>
      nm (v11 + 1) fun v11_13 =>
      kb s_self_10 s_table_11 v11_13
set_option maxHeartbeats 4000000 in
set_option maxRecDepth 100000 in
theorem t_Ch_fit_211 {p : Program} {l : Launch} {e : Env} {s : State} {m : MethodId} {args : Array Value} {below : List Frame} {meth : Method} {c : Code} {A : Nat → Prop} {D : va_G} {K : Nat → ClassId} (a_self a_grammar a_table : Nat → Nat) (X : gx p s m args c b_Ch_fit 12 R_Ch w_Ch_fit D classes (tyK K) A) (hr : meth.sig.returnType = none) (hlk : meth.locks = false) (d : Nat) (rec : (Nat → Nat → Int32) → (Nat → Nat → Int32) → (Nat → Nat → Int32) → Int32 → Int32 → Int32 → Int32 → Int32 → Int32 → Option ((Nat → Nat → Int32) × (Nat → Nat → Int32))) (hrec : ∀ (s_self s_grammar s_table : Nat → Nat → Int32) (v1 v2 v3 v4 v5 v6 : Int32) (f_self f_table : Nat → Nat → Int32), rec s_self s_grammar s_table v1 v2 v3 v4 v5 v6 = some (f_self, f_table) → SMet l y_Ch_fit w_Ch_fit (rm_Ch_fit d) D classes (tyK K) [.ref (a_self 0), .int v1, .int v2, .int v3, .int v4, .int v5, .int v6] none [wd_Ch K a_self (a_grammar 0) (a_table 0) s_self, wd_Gr K a_grammar s_grammar, wd_Tt K a_table s_table] [wd_Ch K a_self (a_grammar 0) (a_table 0) f_self, wd_Gr K a_grammar s_grammar, wd_Tt K a_table f_table]) (N : Nat) (f_self f_table : Nat → Nat → Int32) (s_self s_grammar s_table : Nat → Nat → Int32) (v1 v2 v3 v4 v5 v6 v8 v9 v10 v11 : Int32) (kb : (Nat → Nat → Int32) → (Nat → Nat → Int32) → Int32 → Option ((Nat → Nat → Int32) × (Nat → Nat → Int32))) (hkb : ∀ (s_self s_table : Nat → Nat → Int32) (v11 : Int32), kb s_self s_table v11 = some (f_self, f_table) → Gd p l e (rm_Ch_fit (d + 1)) s m args below meth c 0 0 (MQ below (sq D classes (tyK K) none [wd_Ch K a_self (a_grammar 0) (a_table 0) f_self, wd_Gr K a_grammar s_grammar, wd_Tt K a_table f_table] A) args s 0 0 A) D classes A 12 211 [wd_Ch K a_self (a_grammar 0) (a_table 0) s_self, wd_Gr K a_grammar s_grammar, wd_Tt K a_table s_table] [(0, .ref (a_self 0)), (1, .int v1), (2, .int v2), (3, .int v3), (4, .int v4), (5, .int v5), (6, .int v6), (8, .int v8), (9, .int v9), (10, .int v10), (11, .int v11)] []) (kx272 : (Nat → Nat → Int32) → (Nat → Nat → Int32) → Option ((Nat → Nat → Int32) × (Nat → Nat → Int32))) (hkx272 : ∀ (s_self s_table : Nat → Nat → Int32), kx272 s_self s_table = some (f_self, f_table) → Gd p l e (rm_Ch_fit (d + 1)) s m args below meth c 0 0 (MQ below (sq D classes (tyK K) none [wd_Ch K a_self (a_grammar 0) (a_table 0) f_self, wd_Gr K a_grammar s_grammar, wd_Tt K a_table f_table] A) args s 0 0 A) D classes A 12 272 [wd_Ch K a_self (a_grammar 0) (a_table 0) s_self, wd_Gr K a_grammar s_grammar, wd_Tt K a_table s_table] [] []) (h : f_Ch_fit_211 rec N kb kx272 s_self s_grammar s_table v1 v2 v3 v4 v5 v6 v8 v9 v10 v11 = some (f_self, f_table)) : Gd p l e (rm_Ch_fit (d + 1)) s m args below meth c 0 0 (MQ below (sq D classes (tyK K) none [wd_Ch K a_self (a_grammar 0) (a_table 0) f_self, wd_Gr K a_grammar s_grammar, wd_Tt K a_table f_table] A) args s 0 0 A) D classes A 12 211 [wd_Ch K a_self (a_grammar 0) (a_table 0) s_self, wd_Gr K a_grammar s_grammar, wd_Tt K a_table s_table] [(0, .ref (a_self 0)), (1, .int v1), (2, .int v2), (3, .int v3), (4, .int v4), (5, .int v5), (6, .int v6), (8, .int v8), (9, .int v9), (10, .int v10), (11, .int v11)] [] := by
  unfold f_Ch_fit_211 at h
  refine gd_iload X d_Ch_fit_211 10 rfl ?_
  refine gd_iload X d_Ch_fit_213 7 rfl ?_
  refine gd_icmp_gt X (tgt := 272) d_Ch_fit_215 (by decide) (fun c_1 => ?_) (fun c_1 => ?_)
  · replace h := it_p c_1 h
    refine gd_loc (lv' := []) [] rfl ?_
    exact hkx272 s_self s_table h
  · replace h := it_n c_1 h
    refine gd_aload_n X d_Ch_fit_218 0 rfl ?_
    refine gd_iload X d_Ch_fit_219 9 rfl ?_
    refine gd_iload X d_Ch_fit_221 5 rfl ?_
    refine gd_iload X d_Ch_fit_223 10 rfl ?_
    obtain ⟨r_2, hc_3, h⟩ := bd1_e h
    refine gd_pI X (gd_V X (As := [.int v10, .int v5, .int v11]) (rest := []) (c_Ch_waysOf l D K a_self a_grammar a_table s_self v10 v5 v11 r_2 hc_3) 3 (gi_V ml_Ch_159 u_Ch_waysOf) rfl ⟨rfl, rfl⟩ (by decide +kernel) ⟨by simp only [rm_Ch_fit, rm_Ch_waysOf]; omega, by simp only [rm_Ch_fit, rm_Ch_waysOf]; omega⟩ (ci := 3) rfl rfl rfl rfl rfl rfl (Nat.le_of_ble_eq_true rfl) ⟨Nat.zero_le _, Nat.zero_le _⟩ d_Ch_fit_225) [0] rfl rfl ?_
    refine gd_if_le X (tgt := 266) d_Ch_fit_228 (by decide) (fun c_4 => ?_) (fun c_4 => ?_)
    · replace h := it_p c_4 h
      obtain ⟨v11_5, ev11_5, h⟩ := nm_e' h
      refine gd_iinc X (v := v11_5) (lv' := [(11, .int v11_5), (0, .ref (a_self 0)), (1, .int v1), (2, .int v2), (3, .int v3), (4, .int v4), (5, .int v5), (6, .int v6), (8, .int v8), (9, .int v9), (10, .int v10)]) d_Ch_fit_266 (k := 10) rfl (by rw [ev11_5]; rfl) (by decide) rfl ?_
      refine gd_goto X (tgt := 211) d_Ch_fit_269 (by decide) ?_
      refine gd_loc (lv' := [(0, .ref (a_self 0)), (1, .int v1), (2, .int v2), (3, .int v3), (4, .int v4), (5, .int v5), (6, .int v6), (8, .int v8), (9, .int v9), (10, .int v10), (11, .int v11_5)]) [1, 2, 3, 4, 5, 6, 7, 8, 9, 10, 0] rfl ?_
      exact hkb s_self s_table v11_5 h
    · replace h := it_n c_4 h
      refine gd_aload_n X d_Ch_fit_231 0 rfl ?_
      refine gd_get X (ci := 3) (C := R_Ch) (T := F_Ch) (N := 12) (v := .ref (a_self 5)) 0 0 rfl rfl rfl (in_Ch _) 9 (by decide) (List.mem_cons_of_mem _ fl_Ch_35) rfl rfl d_Ch_fit_232 ?_
      refine gd_iload X d_Ch_fit_235 8 rfl ?_
      refine gd_iload X d_Ch_fit_237 5 rfl ?_
      obtain ⟨hi_6, h⟩ := ck_e h
      obtain ⟨s_self_7, es_self_7, h⟩ := nm_e' h
      refine gd_iast X (w' := [wd_Ch K a_self (a_grammar 0) (a_table 0) s_self_7, wd_Gr K a_grammar s_grammar, wd_Tt K a_table s_table]) 0 5 0 rfl rfl rfl hi_6 d_Ch_fit_239 (by rw [es_self_7]; rfl) ?_
      refine gd_aload_n X d_Ch_fit_240 0 rfl ?_
      refine gd_get X (ci := 3) (C := R_Ch) (T := F_Ch) (N := 12) (v := .ref (a_self 6)) 0 0 rfl rfl rfl (in_Ch _) 10 (by decide) (List.mem_cons_of_mem _ fl_Ch_38) rfl rfl d_Ch_fit_241 ?_
      refine gd_iload X d_Ch_fit_244 8 rfl ?_
      refine gd_iload X d_Ch_fit_246 10 rfl ?_
      obtain ⟨hi_8, h⟩ := ck_e h
      obtain ⟨s_self_9, es_self_9, h⟩ := nm_e' h
      refine gd_iast X (w' := [wd_Ch K a_self (a_grammar 0) (a_table 0) s_self_9, wd_Gr K a_grammar s_grammar, wd_Tt K a_table s_table]) 0 6 0 rfl rfl rfl hi_8 d_Ch_fit_248 (by rw [es_self_9]; rfl) ?_
      refine gd_aload_n X d_Ch_fit_249 0 rfl ?_
      refine gd_iload_n X d_Ch_fit_250 1 rfl ?_
      refine gd_iload_n X d_Ch_fit_251 2 rfl ?_
      refine gd_iload_n X d_Ch_fit_252 3 rfl ?_
      refine gd_iload X d_Ch_fit_253 4 rfl ?_
      refine gd_iconst X (v := 1) d_Ch_fit_255 (by decide) ?_
      refine gd_iadd X d_Ch_fit_256 ?_
      refine gd_iload X d_Ch_fit_257 10 rfl ?_
      refine gd_iload X d_Ch_fit_259 6 rfl ?_
      refine gd_iconst X (v := 1) d_Ch_fit_261 (by decide) ?_
      refine gd_iadd X d_Ch_fit_262 ?_
      obtain ⟨s_self_10, s_table_11, hc_12, h⟩ := bd2_e h
      refine gd_fv X (w1 := [wd_Ch K a_self (a_grammar 0) (a_table 0) s_self_10, wd_Gr K a_grammar s_grammar, wd_Tt K a_table s_table_11]) (gd_V X (As := [.int v1, .int v2, .int v3, .int (v4 + 1), .int v11, .int (v6 + 1)]) (rest := []) (hrec s_self_9 s_grammar s_table v1 v2 v3 (v4 + 1) v11 (v6 + 1) s_self_10 s_table_11 hc_12) 6 (gi_V ml_Ch_120 u_Ch_fit) rfl ⟨rfl, rfl⟩ (by decide +kernel) ⟨by simp only [rm_Ch_fit]; omega, by simp only [rm_Ch_fit]; omega⟩ (ci := 3) rfl rfl rfl rfl rfl rfl (Nat.le_of_ble_eq_true rfl) ⟨Nat.zero_le _, Nat.zero_le _⟩ d_Ch_fit_263) ?_
      obtain ⟨v11_13, ev11_13, h⟩ := nm_e' h
      refine gd_iinc X (v := v11_13) (lv' := [(11, .int v11_13), (0, .ref (a_self 0)), (1, .int v1), (2, .int v2), (3, .int v3), (4, .int v4), (5, .int v5), (6, .int v6), (8, .int v8), (9, .int v9), (10, .int v10)]) d_Ch_fit_266 (k := 10) rfl (by rw [ev11_13]; rfl) (by decide) rfl ?_
      refine gd_goto X (tgt := 211) d_Ch_fit_269 (by decide) ?_
      refine gd_loc (lv' := [(0, .ref (a_self 0)), (1, .int v1), (2, .int v2), (3, .int v3), (4, .int v4), (5, .int v5), (6, .int v6), (8, .int v8), (9, .int v9), (10, .int v10), (11, .int v11_13)]) [1, 2, 3, 4, 5, 6, 7, 8, 9, 10, 0] rfl ?_
      exact hkb s_self_10 s_table_11 v11_13 h
def l_Ch_fit_211 (rec : (Nat → Nat → Int32) → (Nat → Nat → Int32) → (Nat → Nat → Int32) → Int32 → Int32 → Int32 → Int32 → Int32 → Int32 → Option ((Nat → Nat → Int32) × (Nat → Nat → Int32))) (N : Nat) (s_grammar : Nat → Nat → Int32) (v1 v2 v3 v4 v5 v6 v8 v9 v10 : Int32) (kx272 : (Nat → Nat → Int32) → (Nat → Nat → Int32) → Option ((Nat → Nat → Int32) × (Nat → Nat → Int32))) : Nat → (Nat → Nat → Int32) → (Nat → Nat → Int32) → Int32 → Option ((Nat → Nat → Int32) × (Nat → Nat → Int32))
  | 0, _, _, _ => none
  | n + 1, s_self, s_table, v11 => f_Ch_fit_211 rec N (l_Ch_fit_211 rec N s_grammar v1 v2 v3 v4 v5 v6 v8 v9 v10 kx272 n) kx272 s_self s_grammar s_table v1 v2 v3 v4 v5 v6 v8 v9 v10 v11
set_option maxHeartbeats 4000000 in
set_option maxRecDepth 100000 in
theorem tl_Ch_fit_211 {p : Program} {l : Launch} {e : Env} {s : State} {m : MethodId} {args : Array Value} {below : List Frame} {meth : Method} {c : Code} {A : Nat → Prop} {D : va_G} {K : Nat → ClassId} (a_self a_grammar a_table : Nat → Nat) (X : gx p s m args c b_Ch_fit 12 R_Ch w_Ch_fit D classes (tyK K) A) (hr : meth.sig.returnType = none) (hlk : meth.locks = false) (d : Nat) (rec : (Nat → Nat → Int32) → (Nat → Nat → Int32) → (Nat → Nat → Int32) → Int32 → Int32 → Int32 → Int32 → Int32 → Int32 → Option ((Nat → Nat → Int32) × (Nat → Nat → Int32))) (hrec : ∀ (s_self s_grammar s_table : Nat → Nat → Int32) (v1 v2 v3 v4 v5 v6 : Int32) (f_self f_table : Nat → Nat → Int32), rec s_self s_grammar s_table v1 v2 v3 v4 v5 v6 = some (f_self, f_table) → SMet l y_Ch_fit w_Ch_fit (rm_Ch_fit d) D classes (tyK K) [.ref (a_self 0), .int v1, .int v2, .int v3, .int v4, .int v5, .int v6] none [wd_Ch K a_self (a_grammar 0) (a_table 0) s_self, wd_Gr K a_grammar s_grammar, wd_Tt K a_table s_table] [wd_Ch K a_self (a_grammar 0) (a_table 0) f_self, wd_Gr K a_grammar s_grammar, wd_Tt K a_table f_table]) (N : Nat) (f_self f_table : Nat → Nat → Int32) (s_grammar : Nat → Nat → Int32) (v1 v2 v3 v4 v5 v6 v8 v9 v10 : Int32) (kx272 : (Nat → Nat → Int32) → (Nat → Nat → Int32) → Option ((Nat → Nat → Int32) × (Nat → Nat → Int32))) (hkx272 : ∀ (s_self s_table : Nat → Nat → Int32), kx272 s_self s_table = some (f_self, f_table) → Gd p l e (rm_Ch_fit (d + 1)) s m args below meth c 0 0 (MQ below (sq D classes (tyK K) none [wd_Ch K a_self (a_grammar 0) (a_table 0) f_self, wd_Gr K a_grammar s_grammar, wd_Tt K a_table f_table] A) args s 0 0 A) D classes A 12 272 [wd_Ch K a_self (a_grammar 0) (a_table 0) s_self, wd_Gr K a_grammar s_grammar, wd_Tt K a_table s_table] [] []) : ∀ (n : Nat) (s_self s_table : Nat → Nat → Int32) (v11 : Int32), l_Ch_fit_211 rec N s_grammar v1 v2 v3 v4 v5 v6 v8 v9 v10 kx272 n s_self s_table v11 = some (f_self, f_table) → Gd p l e (rm_Ch_fit (d + 1)) s m args below meth c 0 0 (MQ below (sq D classes (tyK K) none [wd_Ch K a_self (a_grammar 0) (a_table 0) f_self, wd_Gr K a_grammar s_grammar, wd_Tt K a_table f_table] A) args s 0 0 A) D classes A 12 211 [wd_Ch K a_self (a_grammar 0) (a_table 0) s_self, wd_Gr K a_grammar s_grammar, wd_Tt K a_table s_table] [(0, .ref (a_self 0)), (1, .int v1), (2, .int v2), (3, .int v3), (4, .int v4), (5, .int v5), (6, .int v6), (8, .int v8), (9, .int v9), (10, .int v10), (11, .int v11)] [] := by
  intro n
  induction n with
  | zero => intro s_self s_table v11 h; have h : (none : Option ((Nat → Nat → Int32) × (Nat → Nat → Int32))) = some _ := h; cases h
  | succ n ih =>
    intro s_self s_table v11 h
    exact t_Ch_fit_211 a_self a_grammar a_table X hr hlk d rec hrec N f_self f_table s_self s_grammar s_table v1 v2 v3 v4 v5 v6 v8 v9 v10 v11 (l_Ch_fit_211 rec N s_grammar v1 v2 v3 v4 v5 v6 v8 v9 v10 kx272 n) ih kx272 hkx272 h
def f_Ch_fit_0 (rec : (Nat → Nat → Int32) → (Nat → Nat → Int32) → (Nat → Nat → Int32) → Int32 → Int32 → Int32 → Int32 → Int32 → Int32 → Option ((Nat → Nat → Int32) × (Nat → Nat → Int32))) (N : Nat) (s_self s_grammar s_table : Nat → Nat → Int32) (v1 v2 v3 v4 v5 v6 : Int32) : Option ((Nat → Nat → Int32) × (Nat → Nat → Int32)) :=
  bd1 (m_Gr_lengthOfRule s_grammar v1) fun r_1 =>
  nm ((r_1 - v4) - 1) fun v7_3 =>
  if 0 ≤ v7_3 then
    nm (v3 - v7_3) fun v8_5 =>
    if v5 < v8_5 then
      bd1 (m_Gr_slotAt s_grammar v1 v4) fun r_7 =>
      if r_7 < 0 then
        f_Ch_fit_71 rec N s_self s_grammar s_table v1 v2 v3 v4 v5 v6
      else
        if r_7 < 4 then
          if v6 ≤ r_7 then
            bd1 (m_Gr_sortOfSlot s_grammar v1 r_7) fun r_12 =>
            if v7_3 = 0 then
              l_Ch_fit_211 rec N s_grammar v1 v2 v3 v4 v5 v6 v8_5 r_7 r_12 (fun s_self s_table => f_Ch_fit_272 rec N s_self s_grammar s_table) N s_self s_table v8_5
            else
              nm (v5 + 1) fun v11_15 =>
              l_Ch_fit_211 rec N s_grammar v1 v2 v3 v4 v5 v6 v8_5 r_7 r_12 (fun s_self s_table => f_Ch_fit_272 rec N s_self s_grammar s_table) N s_self s_table v11_15
          else
            ck r_7 4 <|
            ck r_7 4 <|
            nm ((v5 + (s_self 6 (Int32.toNatClampNeg r_7))) - (s_self 5 (Int32.toNatClampNeg r_7))) fun v10_18 =>
            if v8_5 < v10_18 then
              f_Ch_fit_272 rec N s_self s_grammar s_table
            else
              ck r_7 4 <|
              bd1 (m_Ch_hasSameSymbols N s_self (s_self 5 (Int32.toNatClampNeg r_7)) v5 (v10_18 - v5)) fun r_21 =>
              if r_21 = 0 then
                f_Ch_fit_272 rec N s_self s_grammar s_table
              else
                bd2 (rec s_self s_grammar s_table v1 v2 v3 (v4 + 1) v10_18 v6) fun s_self_24 s_table_25 =>
                f_Ch_fit_272 rec N s_self_24 s_grammar s_table_25
        else
          f_Ch_fit_71 rec N s_self s_grammar s_table v1 v2 v3 v4 v5 v6
    else
      some (s_self, s_table)
  else
    if v5 = v3 then
      bd2 (m_Ch_addTrees N s_self s_grammar s_table v1 v2 v3) fun s_self_28 s_table_29 =>
      some (s_self_28, s_table_29)
    else
      some (s_self, s_table)
set_option maxHeartbeats 4000000 in
set_option maxRecDepth 100000 in
theorem t_Ch_fit_0 {p : Program} {l : Launch} {e : Env} {s : State} {m : MethodId} {args : Array Value} {below : List Frame} {meth : Method} {c : Code} {A : Nat → Prop} {D : va_G} {K : Nat → ClassId} (a_self a_grammar a_table : Nat → Nat) (X : gx p s m args c b_Ch_fit 12 R_Ch w_Ch_fit D classes (tyK K) A) (hr : meth.sig.returnType = none) (hlk : meth.locks = false) (d : Nat) (rec : (Nat → Nat → Int32) → (Nat → Nat → Int32) → (Nat → Nat → Int32) → Int32 → Int32 → Int32 → Int32 → Int32 → Int32 → Option ((Nat → Nat → Int32) × (Nat → Nat → Int32))) (hrec : ∀ (s_self s_grammar s_table : Nat → Nat → Int32) (v1 v2 v3 v4 v5 v6 : Int32) (f_self f_table : Nat → Nat → Int32), rec s_self s_grammar s_table v1 v2 v3 v4 v5 v6 = some (f_self, f_table) → SMet l y_Ch_fit w_Ch_fit (rm_Ch_fit d) D classes (tyK K) [.ref (a_self 0), .int v1, .int v2, .int v3, .int v4, .int v5, .int v6] none [wd_Ch K a_self (a_grammar 0) (a_table 0) s_self, wd_Gr K a_grammar s_grammar, wd_Tt K a_table s_table] [wd_Ch K a_self (a_grammar 0) (a_table 0) f_self, wd_Gr K a_grammar s_grammar, wd_Tt K a_table f_table]) (N : Nat) (f_self f_table : Nat → Nat → Int32) (s_self s_grammar s_table : Nat → Nat → Int32) (v1 v2 v3 v4 v5 v6 : Int32) (h : f_Ch_fit_0 rec N s_self s_grammar s_table v1 v2 v3 v4 v5 v6 = some (f_self, f_table)) : Gd p l e (rm_Ch_fit (d + 1)) s m args below meth c 0 0 (MQ below (sq D classes (tyK K) none [wd_Ch K a_self (a_grammar 0) (a_table 0) f_self, wd_Gr K a_grammar s_grammar, wd_Tt K a_table f_table] A) args s 0 0 A) D classes A 12 0 [wd_Ch K a_self (a_grammar 0) (a_table 0) s_self, wd_Gr K a_grammar s_grammar, wd_Tt K a_table s_table] [(0, .ref (a_self 0)), (1, .int v1), (2, .int v2), (3, .int v3), (4, .int v4), (5, .int v5), (6, .int v6)] [] := by
  unfold f_Ch_fit_0 at h
  refine gd_aload_n X d_Ch_fit_0 0 rfl ?_
  refine gd_get X (ci := 3) (C := R_Ch) (T := F_Ch) (N := 12) (v := .ref (a_grammar 0)) 0 0 rfl rfl rfl (in_Ch _) 0 (by decide) (List.mem_cons_of_mem _ fl_Ch_9) rfl rfl d_Ch_fit_1 ?_
  refine gd_iload_n X d_Ch_fit_4 1 rfl ?_
  obtain ⟨r_1, hc_2, h⟩ := bd1_e h
  refine gd_pI X (gd_V X (As := [.int v1]) (rest := []) (c_Gr_lengthOfRule l D K a_grammar s_grammar v1 r_1 hc_2) 1 (gi_V ml_Ch_142 u_Gr_lengthOfRule) rfl ⟨rfl, rfl⟩ (by decide +kernel) ⟨by simp only [rm_Ch_fit, rm_Gr_lengthOfRule]; omega, by simp only [rm_Ch_fit, rm_Gr_lengthOfRule]; omega⟩ (ci := 1) rfl rfl rfl rfl rfl rfl (Nat.le_of_ble_eq_true rfl) ⟨Nat.zero_le _, Nat.zero_le _⟩ d_Ch_fit_5) [1] rfl rfl ?_
  refine gd_iload X d_Ch_fit_8 4 rfl ?_
  refine gd_isub X d_Ch_fit_10 ?_
  refine gd_iconst X (v := 1) d_Ch_fit_11 (by decide) ?_
  refine gd_isub X d_Ch_fit_12 ?_
  obtain ⟨v7_3, ev7_3, h⟩ := nm_e' h
  refine gd_topi ev7_3 ?_
  refine gd_istore X (lv' := [(7, .int v7_3), (0, .ref (a_self 0)), (1, .int v1), (2, .int v2), (3, .int v3), (4, .int v4), (5, .int v5), (6, .int v6)]) d_Ch_fit_13 (by decide) rfl ?_
  refine gd_iload X d_Ch_fit_15 0 rfl ?_
  refine gd_if_ge X (tgt := 34) d_Ch_fit_17 (by decide) (fun c_4 => ?_) (fun c_4 => ?_)
  · replace h := it_p c_4 h
    refine gd_iload_n X d_Ch_fit_34 4 rfl ?_
    refine gd_iload X d_Ch_fit_35 0 rfl ?_
    refine gd_isub X d_Ch_fit_37 ?_
    obtain ⟨v8_5, ev8_5, h⟩ := nm_e' h
    refine gd_topi ev8_5 ?_
    refine gd_istore X (lv' := [(8, .int v8_5), (7, .int v7_3), (0, .ref (a_self 0)), (1, .int v1), (2, .int v2), (3, .int v3), (4, .int v4), (5, .int v5), (6, .int v6)]) d_Ch_fit_38 (by decide) rfl ?_
    refine gd_iload X d_Ch_fit_40 7 rfl ?_
    refine gd_iload X d_Ch_fit_42 0 rfl ?_
    refine gd_icmp_lt X (tgt := 48) d_Ch_fit_44 (by decide) (fun c_6 => ?_) (fun c_6 => ?_)
    · replace h := it_p c_6 h
      refine gd_aload_n X d_Ch_fit_48 2 rfl ?_
      refine gd_get X (ci := 3) (C := R_Ch) (T := F_Ch) (N := 12) (v := .ref (a_grammar 0)) 0 0 rfl rfl rfl (in_Ch _) 0 (by decide) (List.mem_cons_of_mem _ fl_Ch_9) rfl rfl d_Ch_fit_49 ?_
      refine gd_iload_n X d_Ch_fit_52 3 rfl ?_
      refine gd_iload X d_Ch_fit_53 6 rfl ?_
      obtain ⟨r_7, hc_8, h⟩ := bd1_e h
      refine gd_pI X (gd_V X (As := [.int v1, .int v4]) (rest := []) (c_Gr_slotAt l D K a_grammar s_grammar v1 v4 r_7 hc_8) 2 (gi_V ml_Ch_149 u_Gr_slotAt) rfl ⟨rfl, rfl⟩ (by decide +kernel) ⟨by simp only [rm_Ch_fit, rm_Gr_slotAt]; omega, by simp only [rm_Ch_fit, rm_Gr_slotAt]; omega⟩ (ci := 1) rfl rfl rfl rfl rfl rfl (Nat.le_of_ble_eq_true rfl) ⟨Nat.zero_le _, Nat.zero_le _⟩ d_Ch_fit_55) [1] rfl rfl ?_
      refine gd_istore X (lv' := [(9, .int r_7), (8, .int v8_5), (7, .int v7_3), (0, .ref (a_self 0)), (1, .int v1), (2, .int v2), (3, .int v3), (4, .int v4), (5, .int v5), (6, .int v6)]) d_Ch_fit_58 (by decide) rfl ?_
      refine gd_iload X d_Ch_fit_60 0 rfl ?_
      refine gd_if_lt X (tgt := 71) d_Ch_fit_62 (by decide) (fun c_9 => ?_) (fun c_9 => ?_)
      · replace h := it_p c_9 h
        refine gd_loc (lv' := [(0, .ref (a_self 0)), (1, .int v1), (2, .int v2), (3, .int v3), (4, .int v4), (5, .int v5), (6, .int v6)]) [3, 4, 5, 6, 7, 8, 9] rfl ?_
        exact t_Ch_fit_71 a_self a_grammar a_table X hr hlk d rec hrec N f_self f_table s_self s_grammar s_table v1 v2 v3 v4 v5 v6 h
      · replace h := it_n c_9 h
        refine gd_iload X d_Ch_fit_65 0 rfl ?_
        refine gd_iconst X (v := 4) d_Ch_fit_67 (by decide) ?_
        refine gd_icmp_lt X (tgt := 110) d_Ch_fit_68 (by decide) (fun c_10 => ?_) (fun c_10 => ?_)
        · replace h := it_p c_10 h
          refine gd_iload X d_Ch_fit_110 0 rfl ?_
          refine gd_iload X d_Ch_fit_112 9 rfl ?_
          refine gd_icmp_ge X (tgt := 183) d_Ch_fit_114 (by decide) (fun c_11 => ?_) (fun c_11 => ?_)
          · replace h := it_p c_11 h
            refine gd_aload_n X d_Ch_fit_183 3 rfl ?_
            refine gd_get X (ci := 3) (C := R_Ch) (T := F_Ch) (N := 12) (v := .ref (a_grammar 0)) 0 0 rfl rfl rfl (in_Ch _) 0 (by decide) (List.mem_cons_of_mem _ fl_Ch_9) rfl rfl d_Ch_fit_184 ?_
            refine gd_iload_n X d_Ch_fit_187 4 rfl ?_
            refine gd_iload X d_Ch_fit_188 0 rfl ?_
            obtain ⟨r_12, hc_13, h⟩ := bd1_e h
            refine gd_pI X (gd_V X (As := [.int v1, .int r_7]) (rest := []) (c_Gr_sortOfSlot l D K a_grammar s_grammar v1 r_7 r_12 hc_13) 2 (gi_V ml_Ch_100 u_Gr_sortOfSlot) rfl ⟨rfl, rfl⟩ (by decide +kernel) ⟨by simp only [rm_Ch_fit, rm_Gr_sortOfSlot]; omega, by simp only [rm_Ch_fit, rm_Gr_sortOfSlot]; omega⟩ (ci := 1) rfl rfl rfl rfl rfl rfl (Nat.le_of_ble_eq_true rfl) ⟨Nat.zero_le _, Nat.zero_le _⟩ d_Ch_fit_190) [1] rfl rfl ?_
            refine gd_istore X (lv' := [(10, .int r_12), (9, .int r_7), (8, .int v8_5), (7, .int v7_3), (0, .ref (a_self 0)), (1, .int v1), (2, .int v2), (3, .int v3), (4, .int v4), (5, .int v5), (6, .int v6)]) d_Ch_fit_193 (by decide) rfl ?_
            refine gd_iload X d_Ch_fit_195 3 rfl ?_
            refine gd_if_ne X (tgt := 205) d_Ch_fit_197 (by decide) (fun c_14 => ?_) (fun c_14 => ?_)
            · replace h := it_n c_14 h
              refine gd_iload X d_Ch_fit_205 9 rfl ?_
              refine gd_iconst X (v := 1) d_Ch_fit_207 (by decide) ?_
              refine gd_iadd X d_Ch_fit_208 ?_
              obtain ⟨v11_15, ev11_15, h⟩ := nm_e' h
              refine gd_topi ev11_15 ?_
              refine gd_istore X (lv' := [(11, .int v11_15), (10, .int r_12), (9, .int r_7), (8, .int v8_5), (7, .int v7_3), (0, .ref (a_self 0)), (1, .int v1), (2, .int v2), (3, .int v3), (4, .int v4), (5, .int v5), (6, .int v6)]) d_Ch_fit_209 (by decide) rfl ?_
              refine gd_loc (lv' := [(0, .ref (a_self 0)), (1, .int v1), (2, .int v2), (3, .int v3), (4, .int v4), (5, .int v5), (6, .int v6), (8, .int v8_5), (9, .int r_7), (10, .int r_12), (11, .int v11_15)]) [5, 6, 7, 8, 9, 10, 11, 3, 2, 1, 0] rfl ?_
              exact tl_Ch_fit_211 a_self a_grammar a_table X hr hlk d rec hrec N f_self f_table s_grammar v1 v2 v3 v4 v5 v6 v8_5 r_7 r_12 (fun s_self s_table => f_Ch_fit_272 rec N s_self s_grammar s_table) (fun s_self s_table h => t_Ch_fit_272 a_self a_grammar a_table X hr hlk d rec hrec N f_self f_table s_self s_grammar s_table h) N s_self s_table v11_15 h
            · replace h := it_p c_14 h
              refine gd_iload X d_Ch_fit_200 2 rfl ?_
              refine gd_goto X (tgt := 209) d_Ch_fit_202 (by decide) ?_
              refine gd_istore X (lv' := [(11, .int v8_5), (10, .int r_12), (9, .int r_7), (8, .int v8_5), (7, .int v7_3), (0, .ref (a_self 0)), (1, .int v1), (2, .int v2), (3, .int v3), (4, .int v4), (5, .int v5), (6, .int v6)]) d_Ch_fit_209 (by decide) rfl ?_
              refine gd_loc (lv' := [(0, .ref (a_self 0)), (1, .int v1), (2, .int v2), (3, .int v3), (4, .int v4), (5, .int v5), (6, .int v6), (8, .int v8_5), (9, .int r_7), (10, .int r_12), (11, .int v8_5)]) [5, 6, 7, 8, 9, 10, 11, 3, 2, 1, 0] rfl ?_
              exact tl_Ch_fit_211 a_self a_grammar a_table X hr hlk d rec hrec N f_self f_table s_grammar v1 v2 v3 v4 v5 v6 v8_5 r_7 r_12 (fun s_self s_table => f_Ch_fit_272 rec N s_self s_grammar s_table) (fun s_self s_table h => t_Ch_fit_272 a_self a_grammar a_table X hr hlk d rec hrec N f_self f_table s_self s_grammar s_table h) N s_self s_table v8_5 h
          · replace h := it_n c_11 h
            refine gd_iload X d_Ch_fit_117 8 rfl ?_
            refine gd_aload_n X d_Ch_fit_119 3 rfl ?_
            refine gd_get X (ci := 3) (C := R_Ch) (T := F_Ch) (N := 12) (v := .ref (a_self 6)) 0 0 rfl rfl rfl (in_Ch _) 10 (by decide) (List.mem_cons_of_mem _ fl_Ch_38) rfl rfl d_Ch_fit_120 ?_
            refine gd_iload X d_Ch_fit_123 0 rfl ?_
            obtain ⟨hi_16, h⟩ := ck_e h
            refine gd_iald X 0 6 0 rfl rfl rfl hi_16 d_Ch_fit_125 ?_
            refine gd_iadd X d_Ch_fit_126 ?_
            refine gd_aload_n X d_Ch_fit_127 3 rfl ?_
            refine gd_get X (ci := 3) (C := R_Ch) (T := F_Ch) (N := 12) (v := .ref (a_self 5)) 0 0 rfl rfl rfl (in_Ch _) 9 (by decide) (List.mem_cons_of_mem _ fl_Ch_35) rfl rfl d_Ch_fit_128 ?_
            refine gd_iload X d_Ch_fit_131 0 rfl ?_
            obtain ⟨hi_17, h⟩ := ck_e h
            refine gd_iald X 0 5 0 rfl rfl rfl hi_17 d_Ch_fit_133 ?_
            refine gd_isub X d_Ch_fit_134 ?_
            obtain ⟨v10_18, ev10_18, h⟩ := nm_e' h
            refine gd_topi ev10_18 ?_
            refine gd_istore X (lv' := [(10, .int v10_18), (9, .int r_7), (8, .int v8_5), (7, .int v7_3), (0, .ref (a_self 0)), (1, .int v1), (2, .int v2), (3, .int v3), (4, .int v4), (5, .int v5), (6, .int v6)]) d_Ch_fit_135 (by decide) rfl ?_
            refine gd_iload X d_Ch_fit_137 0 rfl ?_
            refine gd_iload X d_Ch_fit_139 2 rfl ?_
            refine gd_icmp_gt X (tgt := 180) d_Ch_fit_141 (by decide) (fun c_19 => ?_) (fun c_19 => ?_)
            · replace h := it_p c_19 h
              refine gd_goto X (tgt := 272) d_Ch_fit_180 (by decide) ?_
              refine gd_loc (lv' := []) [] rfl ?_
              exact t_Ch_fit_272 a_self a_grammar a_table X hr hlk d rec hrec N f_self f_table s_self s_grammar s_table h
            · replace h := it_n c_19 h
              refine gd_aload_n X d_Ch_fit_144 4 rfl ?_
              refine gd_aload_n X d_Ch_fit_145 4 rfl ?_
              refine gd_get X (ci := 3) (C := R_Ch) (T := F_Ch) (N := 12) (v := .ref (a_self 5)) 0 0 rfl rfl rfl (in_Ch _) 9 (by decide) (List.mem_cons_of_mem _ fl_Ch_35) rfl rfl d_Ch_fit_146 ?_
              refine gd_iload X d_Ch_fit_149 1 rfl ?_
              obtain ⟨hi_20, h⟩ := ck_e h
              refine gd_iald X 0 5 0 rfl rfl rfl hi_20 d_Ch_fit_151 ?_
              refine gd_iload X d_Ch_fit_152 9 rfl ?_
              refine gd_iload X d_Ch_fit_154 0 rfl ?_
              refine gd_iload X d_Ch_fit_156 9 rfl ?_
              refine gd_isub X d_Ch_fit_158 ?_
              obtain ⟨r_21, hc_22, h⟩ := bd1_e h
              refine gd_pI X (gd_V X (As := [.int (s_self 5 (Int32.toNatClampNeg r_7)), .int v5, .int (v10_18 - v5)]) (rest := []) (c_Ch_hasSameSymbols l D K a_self a_grammar a_table N s_self (s_self 5 (Int32.toNatClampNeg r_7)) v5 (v10_18 - v5) r_21 hc_22) 3 (gi_V ml_Ch_155 u_Ch_hasSameSymbols) rfl ⟨rfl, rfl⟩ (by decide +kernel) ⟨by simp only [rm_Ch_fit, rm_Ch_hasSameSymbols]; omega, by simp only [rm_Ch_fit, rm_Ch_hasSameSymbols]; omega⟩ (ci := 3) rfl rfl rfl rfl rfl rfl (Nat.le_of_ble_eq_true rfl) ⟨Nat.zero_le _, Nat.zero_le _⟩ d_Ch_fit_159) [0] rfl rfl ?_
              refine gd_if_eq X (tgt := 180) d_Ch_fit_162 (by decide) (fun c_23 => ?_) (fun c_23 => ?_)
              · replace h := it_p c_23 h
                refine gd_goto X (tgt := 272) d_Ch_fit_180 (by decide) ?_
                refine gd_loc (lv' := []) [] rfl ?_
                exact t_Ch_fit_272 a_self a_grammar a_table X hr hlk d rec hrec N f_self f_table s_self s_grammar s_table h
              · replace h := it_n c_23 h
                refine gd_aload_n X d_Ch_fit_165 4 rfl ?_
                refine gd_iload_n X d_Ch_fit_166 5 rfl ?_
                refine gd_iload_n X d_Ch_fit_167 6 rfl ?_
                refine gd_iload_n X d_Ch_fit_168 7 rfl ?_
                refine gd_iload X d_Ch_fit_169 8 rfl ?_
                refine gd_iconst X (v := 1) d_Ch_fit_171 (by decide) ?_
                refine gd_iadd X d_Ch_fit_172 ?_
                refine gd_iload X d_Ch_fit_173 0 rfl ?_
                refine gd_iload X d_Ch_fit_175 10 rfl ?_
                obtain ⟨s_self_24, s_table_25, hc_26, h⟩ := bd2_e h
                refine gd_fv X (w1 := [wd_Ch K a_self (a_grammar 0) (a_table 0) s_self_24, wd_Gr K a_grammar s_grammar, wd_Tt K a_table s_table_25]) (gd_V X (As := [.int v1, .int v2, .int v3, .int (v4 + 1), .int v10_18, .int v6]) (rest := []) (hrec s_self s_grammar s_table v1 v2 v3 (v4 + 1) v10_18 v6 s_self_24 s_table_25 hc_26) 6 (gi_V ml_Ch_120 u_Ch_fit) rfl ⟨rfl, rfl⟩ (by decide +kernel) ⟨by simp only [rm_Ch_fit]; omega, by simp only [rm_Ch_fit]; omega⟩ (ci := 3) rfl rfl rfl rfl rfl rfl (Nat.le_of_ble_eq_true rfl) ⟨Nat.zero_le _, Nat.zero_le _⟩ d_Ch_fit_177) ?_
                refine gd_goto X (tgt := 272) d_Ch_fit_180 (by decide) ?_
                refine gd_loc (lv' := []) [] rfl ?_
                exact t_Ch_fit_272 a_self a_grammar a_table X hr hlk d rec hrec N f_self f_table s_self_24 s_grammar s_table_25 h
        · replace h := it_n c_10 h
          refine gd_loc (lv' := [(0, .ref (a_self 0)), (1, .int v1), (2, .int v2), (3, .int v3), (4, .int v4), (5, .int v5), (6, .int v6)]) [3, 4, 5, 6, 7, 8, 9] rfl ?_
          exact t_Ch_fit_71 a_self a_grammar a_table X hr hlk d rec hrec N f_self f_table s_self s_grammar s_table v1 v2 v3 v4 v5 v6 h
    · replace h := it_n c_6 h
      cases h
      exact gd_vret X hr hlk d_Ch_fit_47
  · replace h := it_n c_4 h
    refine gd_iload X d_Ch_fit_20 6 rfl ?_
    refine gd_iload_n X d_Ch_fit_22 4 rfl ?_
    refine gd_icmp_ne X (tgt := 33) d_Ch_fit_23 (by decide) (fun c_27 => ?_) (fun c_27 => ?_)
    · replace h := it_n c_27 h
      cases h
      exact gd_vret X hr hlk d_Ch_fit_33
    · replace h := it_p c_27 h
      refine gd_aload_n X d_Ch_fit_26 1 rfl ?_
      refine gd_iload_n X d_Ch_fit_27 2 rfl ?_
      refine gd_iload_n X d_Ch_fit_28 3 rfl ?_
      refine gd_iload_n X d_Ch_fit_29 4 rfl ?_
      obtain ⟨s_self_28, s_table_29, hc_30, h⟩ := bd2_e h
      refine gd_fv X (w1 := [wd_Ch K a_self (a_grammar 0) (a_table 0) s_self_28, wd_Gr K a_grammar s_grammar, wd_Tt K a_table s_table_29]) (gd_V X (As := [.int v1, .int v2, .int v3]) (rest := []) (c_Ch_addTrees l D K a_self a_grammar a_table N s_self s_grammar s_table v1 v2 v3 s_self_28 s_table_29 hc_30) 3 (gi_V ml_Ch_145 u_Ch_addTrees) rfl ⟨rfl, rfl⟩ (by decide +kernel) ⟨by simp only [rm_Ch_fit, rm_Ch_addTrees]; omega, by simp only [rm_Ch_fit, rm_Ch_addTrees]; omega⟩ (ci := 3) rfl rfl rfl rfl rfl rfl (Nat.le_of_ble_eq_true rfl) ⟨Nat.zero_le _, Nat.zero_le _⟩ d_Ch_fit_30) ?_
      cases h
      exact gd_vret X hr hlk d_Ch_fit_33
def m_Ch_fit : Nat → Nat → (Nat → Nat → Int32) → (Nat → Nat → Int32) → (Nat → Nat → Int32) → Int32 → Int32 → Int32 → Int32 → Int32 → Int32 → Option ((Nat → Nat → Int32) × (Nat → Nat → Int32))
  | 0, _, _, _, _, _, _, _, _, _, _ => none
  | d + 1, N, s_self, s_grammar, s_table, v1, v2, v3, v4, v5, v6 => f_Ch_fit_0 (m_Ch_fit d N) N s_self s_grammar s_table v1 v2 v3 v4 v5 v6
set_option maxHeartbeats 4000000 in
set_option maxRecDepth 100000 in
theorem c_Ch_fit (l : Launch) (D : va_G) (K : Nat → ClassId) (a_self a_grammar a_table : Nat → Nat) : ∀ (d N : Nat) (s_self s_grammar s_table : Nat → Nat → Int32) (v1 v2 v3 v4 v5 v6 : Int32) (f_self f_table : Nat → Nat → Int32), m_Ch_fit d N s_self s_grammar s_table v1 v2 v3 v4 v5 v6 = some (f_self, f_table) → SMet l y_Ch_fit w_Ch_fit (rm_Ch_fit d) D classes (tyK K) [.ref (a_self 0), .int v1, .int v2, .int v3, .int v4, .int v5, .int v6] none [wd_Ch K a_self (a_grammar 0) (a_table 0) s_self, wd_Gr K a_grammar s_grammar, wd_Tt K a_table s_table] [wd_Ch K a_self (a_grammar 0) (a_table 0) f_self, wd_Gr K a_grammar s_grammar, wd_Tt K a_table f_table] := by
  intro d
  induction d with
  | zero => intro N s_self s_grammar s_table v1 v2 v3 v4 v5 v6 f_self f_table h; have h : (none : Option ((Nat → Nat → Int32) × (Nat → Nat → Int32))) = some _ := h; cases h
  | succ d ih =>
    intro N s_self s_grammar s_table v1 v2 v3 v4 v5 v6 f_self f_table h
    refine sm_of R_Ch (by decide) rfl rfl (Nat.le_of_ble_eq_true rfl) ?_
    intro p e s m below meth c A X hr hlk
    refine gd_loc (lv' := [(0, .ref (a_self 0)), (1, .int v1), (2, .int v2), (3, .int v3), (4, .int v4), (5, .int v5), (6, .int v6)]) [0, 1, 2, 3, 4, 5, 6] rfl ?_
    exact t_Ch_fit_0 a_self a_grammar a_table X hr hlk d (m_Ch_fit d N) (fun s_self s_grammar s_table v1 v2 v3 v4 v5 v6 f_self f_table hh => ih N s_self s_grammar s_table v1 v2 v3 v4 v5 v6 f_self f_table hh) N f_self f_table s_self s_grammar s_table v1 v2 v3 v4 v5 v6 h
