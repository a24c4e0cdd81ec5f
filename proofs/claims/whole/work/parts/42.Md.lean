abbrev b_Md_takeStretch : ByteArray := prog_10_method_30_code
def y_Md_takeStretch : MethodName := ⟨R_Md, "takeStretch", "(II)V"⟩
def w_Md_takeStretch : List Cond := .code y_Md_takeStretch b_Md_takeStretch 7 none :: TB
theorem k_Md_takeStretch : Cond.code y_Md_takeStretch b_Md_takeStretch 7 none ∈ TB := tb_of 890 (by decide +kernel) (by decide +kernel)
theorem d_Md_takeStretch_0 : decode b_Md_takeStretch 0 = .ok (.iconst 0, 1) := by decide +kernel
theorem d_Md_takeStretch_1 : decode b_Md_takeStretch 1 = .ok (.istore_n 3, 1) := by decide +kernel
theorem d_Md_takeStretch_2 : decode b_Md_takeStretch 2 = .ok (.iload_n 3, 1) := by decide +kernel
theorem d_Md_takeStretch_3 : decode b_Md_takeStretch 3 = .ok (.bipush 6, 2) := by decide +kernel
theorem d_Md_takeStretch_5 : decode b_Md_takeStretch 5 = .ok (.if_icmp .ge 46, 3) := by decide +kernel
theorem d_Md_takeStretch_8 : decode b_Md_takeStretch 8 = .ok (.aload_n 0, 1) := by decide +kernel
theorem d_Md_takeStretch_9 : decode b_Md_takeStretch 9 = .ok (.getfield 60, 3) := by decide +kernel
theorem d_Md_takeStretch_12 : decode b_Md_takeStretch 12 = .ok (.iload_n 3, 1) := by decide +kernel
theorem d_Md_takeStretch_13 : decode b_Md_takeStretch 13 = .ok (.iconst 0, 1) := by decide +kernel
theorem d_Md_takeStretch_14 : decode b_Md_takeStretch 14 = .ok (.iastore, 1) := by decide +kernel
theorem d_Md_takeStretch_15 : decode b_Md_takeStretch 15 = .ok (.aload_n 0, 1) := by decide +kernel
theorem d_Md_takeStretch_16 : decode b_Md_takeStretch 16 = .ok (.getfield 35, 3) := by decide +kernel
theorem d_Md_takeStretch_19 : decode b_Md_takeStretch 19 = .ok (.iconst 2, 1) := by decide +kernel
theorem d_Md_takeStretch_20 : decode b_Md_takeStretch 20 = .ok (.iload_n 3, 1) := by decide +kernel
theorem d_Md_takeStretch_21 : decode b_Md_takeStretch 21 = .ok (.iload_n 1, 1) := by decide +kernel
theorem d_Md_takeStretch_22 : decode b_Md_takeStretch 22 = .ok (.iload_n 2, 1) := by decide +kernel
theorem d_Md_takeStretch_23 : decode b_Md_takeStretch 23 = .ok (.invokestatic 138, 3) := by decide +kernel
theorem d_Md_takeStretch_26 : decode b_Md_takeStretch 26 = .ok (.imul, 1) := by decide +kernel
theorem d_Md_takeStretch_27 : decode b_Md_takeStretch 27 = .ok (.iconst 0, 1) := by decide +kernel
theorem d_Md_takeStretch_28 : decode b_Md_takeStretch 28 = .ok (.iastore, 1) := by decide +kernel
theorem d_Md_takeStretch_29 : decode b_Md_takeStretch 29 = .ok (.aload_n 0, 1) := by decide +kernel
theorem d_Md_takeStretch_30 : decode b_Md_takeStretch 30 = .ok (.getfield 35, 3) := by decide +kernel
theorem d_Md_takeStretch_33 : decode b_Md_takeStretch 33 = .ok (.iconst 2, 1) := by decide +kernel
theorem d_Md_takeStretch_34 : decode b_Md_takeStretch 34 = .ok (.iload_n 3, 1) := by decide +kernel
theorem d_Md_takeStretch_35 : decode b_Md_takeStretch 35 = .ok (.iload_n 1, 1) := by decide +kernel
theorem d_Md_takeStretch_36 : decode b_Md_takeStretch 36 = .ok (.iload_n 2, 1) := by decide +kernel
theorem d_Md_takeStretch_37 : decode b_Md_takeStretch 37 = .ok (.invokestatic 138, 3) := by decide +kernel
theorem d_Md_takeStretch_40 : decode b_Md_takeStretch 40 = .ok (.imul, 1) := by decide +kernel
theorem d_Md_takeStretch_41 : decode b_Md_takeStretch 41 = .ok (.iconst 1, 1) := by decide +kernel
theorem d_Md_takeStretch_42 : decode b_Md_takeStretch 42 = .ok (.iadd, 1) := by decide +kernel
theorem d_Md_takeStretch_43 : decode b_Md_takeStretch 43 = .ok (.iconst 0, 1) := by decide +kernel
theorem d_Md_takeStretch_44 : decode b_Md_takeStretch 44 = .ok (.iastore, 1) := by decide +kernel
theorem d_Md_takeStretch_45 : decode b_Md_takeStretch 45 = .ok (.iinc 3 1, 3) := by decide +kernel
theorem d_Md_takeStretch_48 : decode b_Md_takeStretch 48 = .ok (.goto (-46), 3) := by decide +kernel
theorem d_Md_takeStretch_51 : decode b_Md_takeStretch 51 = .ok (.iload_n 2, 1) := by decide +kernel
theorem d_Md_takeStretch_52 : decode b_Md_takeStretch 52 = .ok (.iload_n 1, 1) := by decide +kernel
theorem d_Md_takeStretch_53 : decode b_Md_takeStretch 53 = .ok (.iconst 1, 1) := by decide +kernel
theorem d_Md_takeStretch_54 : decode b_Md_takeStretch 54 = .ok (.iadd, 1) := by decide +kernel
theorem d_Md_takeStretch_55 : decode b_Md_takeStretch 55 = .ok (.if_icmp .ne 59, 3) := by decide +kernel
theorem d_Md_takeStretch_58 : decode b_Md_takeStretch 58 = .ok (.aload_n 0, 1) := by decide +kernel
theorem d_Md_takeStretch_59 : decode b_Md_takeStretch 59 = .ok (.getfield 22, 3) := by decide +kernel
theorem d_Md_takeStretch_62 : decode b_Md_takeStretch 62 = .ok (.iload_n 1, 1) := by decide +kernel
theorem d_Md_takeStretch_63 : decode b_Md_takeStretch 63 = .ok (.iaload, 1) := by decide +kernel
theorem d_Md_takeStretch_64 : decode b_Md_takeStretch 64 = .ok (.ifCond .ge 50, 3) := by decide +kernel
theorem d_Md_takeStretch_67 : decode b_Md_takeStretch 67 = .ok (.aload_n 0, 1) := by decide +kernel
theorem d_Md_takeStretch_68 : decode b_Md_takeStretch 68 = .ok (.getfield 7, 3) := by decide +kernel
theorem d_Md_takeStretch_71 : decode b_Md_takeStretch 71 = .ok (.iconst (-1), 1) := by decide +kernel
theorem d_Md_takeStretch_72 : decode b_Md_takeStretch 72 = .ok (.aload_n 0, 1) := by decide +kernel
theorem d_Md_takeStretch_73 : decode b_Md_takeStretch 73 = .ok (.getfield 22, 3) := by decide +kernel
theorem d_Md_takeStretch_76 : decode b_Md_takeStretch 76 = .ok (.iload_n 1, 1) := by decide +kernel
theorem d_Md_takeStretch_77 : decode b_Md_takeStretch 77 = .ok (.iaload, 1) := by decide +kernel
theorem d_Md_takeStretch_78 : decode b_Md_takeStretch 78 = .ok (.isub, 1) := by decide +kernel
theorem d_Md_takeStretch_79 : decode b_Md_takeStretch 79 = .ok (.iaload, 1) := by decide +kernel
theorem d_Md_takeStretch_80 : decode b_Md_takeStretch 80 = .ok (.istore_n 3, 1) := by decide +kernel
theorem d_Md_takeStretch_81 : decode b_Md_takeStretch 81 = .ok (.aload_n 0, 1) := by decide +kernel
theorem d_Md_takeStretch_82 : decode b_Md_takeStretch 82 = .ok (.getfield 60, 3) := by decide +kernel
theorem d_Md_takeStretch_85 : decode b_Md_takeStretch 85 = .ok (.iload_n 3, 1) := by decide +kernel
theorem d_Md_takeStretch_86 : decode b_Md_takeStretch 86 = .ok (.iconst 1, 1) := by decide +kernel
theorem d_Md_takeStretch_87 : decode b_Md_takeStretch 87 = .ok (.iastore, 1) := by decide +kernel
theorem d_Md_takeStretch_88 : decode b_Md_takeStretch 88 = .ok (.aload_n 0, 1) := by decide +kernel
theorem d_Md_takeStretch_89 : decode b_Md_takeStretch 89 = .ok (.iconst 0, 1) := by decide +kernel
theorem d_Md_takeStretch_90 : decode b_Md_takeStretch 90 = .ok (.putfield 119, 3) := by decide +kernel
theorem d_Md_takeStretch_93 : decode b_Md_takeStretch 93 = .ok (.aload_n 0, 1) := by decide +kernel
theorem d_Md_takeStretch_94 : decode b_Md_takeStretch 94 = .ok (.aload_n 0, 1) := by decide +kernel
theorem d_Md_takeStretch_95 : decode b_Md_takeStretch 95 = .ok (.getfield 22, 3) := by decide +kernel
theorem d_Md_takeStretch_98 : decode b_Md_takeStretch 98 = .ok (.iload_n 1, 1) := by decide +kernel
theorem d_Md_takeStretch_99 : decode b_Md_takeStretch 99 = .ok (.iaload, 1) := by decide +kernel
theorem d_Md_takeStretch_100 : decode b_Md_takeStretch 100 = .ok (.invokevirtual 129, 3) := by decide +kernel
theorem d_Md_takeStretch_103 : decode b_Md_takeStretch 103 = .ok (.aload_n 0, 1) := by decide +kernel
theorem d_Md_takeStretch_104 : decode b_Md_takeStretch 104 = .ok (.iload_n 3, 1) := by decide +kernel
theorem d_Md_takeStretch_105 : decode b_Md_takeStretch 105 = .ok (.iload_n 1, 1) := by decide +kernel
theorem d_Md_takeStretch_106 : decode b_Md_takeStretch 106 = .ok (.iload_n 2, 1) := by decide +kernel
theorem d_Md_takeStretch_107 : decode b_Md_takeStretch 107 = .ok (.invokestatic 138, 3) := by decide +kernel
theorem d_Md_takeStretch_110 : decode b_Md_takeStretch 110 = .ok (.invokevirtual 158, 3) := by decide +kernel
theorem d_Md_takeStretch_113 : decode b_Md_takeStretch 113 = .ok (.pop, 1) := by decide +kernel
theorem d_Md_takeStretch_114 : decode b_Md_takeStretch 114 = .ok (.iconst 0, 1) := by decide +kernel
theorem d_Md_takeStretch_115 : decode b_Md_takeStretch 115 = .ok (.istore_n 3, 1) := by decide +kernel
theorem d_Md_takeStretch_116 : decode b_Md_takeStretch 116 = .ok (.iload_n 3, 1) := by decide +kernel
theorem d_Md_takeStretch_117 : decode b_Md_takeStretch 117 = .ok (.aload_n 0, 1) := by decide +kernel
theorem d_Md_takeStretch_118 : decode b_Md_takeStretch 118 = .ok (.getfield 103, 3) := by decide +kernel
theorem d_Md_takeStretch_121 : decode b_Md_takeStretch 121 = .ok (.if_icmp .ge 24, 3) := by decide +kernel
theorem d_Md_takeStretch_124 : decode b_Md_takeStretch 124 = .ok (.aload_n 0, 1) := by decide +kernel
theorem d_Md_takeStretch_125 : decode b_Md_takeStretch 125 = .ok (.iload_n 3, 1) := by decide +kernel
theorem d_Md_takeStretch_126 : decode b_Md_takeStretch 126 = .ok (.invokevirtual 172, 3) := by decide +kernel
theorem d_Md_takeStretch_129 : decode b_Md_takeStretch 129 = .ok (.ifCond .ne 10, 3) := by decide +kernel
theorem d_Md_takeStretch_132 : decode b_Md_takeStretch 132 = .ok (.aload_n 0, 1) := by decide +kernel
theorem d_Md_takeStretch_133 : decode b_Md_takeStretch 133 = .ok (.iload_n 3, 1) := by decide +kernel
theorem d_Md_takeStretch_134 : decode b_Md_takeStretch 134 = .ok (.iload_n 1, 1) := by decide +kernel
theorem d_Md_takeStretch_135 : decode b_Md_takeStretch 135 = .ok (.iload_n 2, 1) := by decide +kernel
theorem d_Md_takeStretch_136 : decode b_Md_takeStretch 136 = .ok (.invokevirtual 179, 3) := by decide +kernel
theorem d_Md_takeStretch_139 : decode b_Md_takeStretch 139 = .ok (.iinc 3 1, 3) := by decide +kernel
theorem d_Md_takeStretch_142 : decode b_Md_takeStretch 142 = .ok (.goto (-26), 3) := by decide +kernel
theorem d_Md_takeStretch_145 : decode b_Md_takeStretch 145 = .ok (.iconst 0, 1) := by decide +kernel
theorem d_Md_takeStretch_146 : decode b_Md_takeStretch 146 = .ok (.istore_n 3, 1) := by decide +kernel
theorem d_Md_takeStretch_147 : decode b_Md_takeStretch 147 = .ok (.iload_n 3, 1) := by decide +kernel
theorem d_Md_takeStretch_148 : decode b_Md_takeStretch 148 = .ok (.aload_n 0, 1) := by decide +kernel
theorem d_Md_takeStretch_149 : decode b_Md_takeStretch 149 = .ok (.getfield 89, 3) := by decide +kernel
theorem d_Md_takeStretch_152 : decode b_Md_takeStretch 152 = .ok (.if_icmp .ge 16, 3) := by decide +kernel
theorem d_Md_takeStretch_155 : decode b_Md_takeStretch 155 = .ok (.aload_n 0, 1) := by decide +kernel
theorem d_Md_takeStretch_156 : decode b_Md_takeStretch 156 = .ok (.getfield 63, 3) := by decide +kernel
theorem d_Md_takeStretch_159 : decode b_Md_takeStretch 159 = .ok (.iload_n 3, 1) := by decide +kernel
theorem d_Md_takeStretch_160 : decode b_Md_takeStretch 160 = .ok (.iconst 0, 1) := by decide +kernel
theorem d_Md_takeStretch_161 : decode b_Md_takeStretch 161 = .ok (.iastore, 1) := by decide +kernel
theorem d_Md_takeStretch_162 : decode b_Md_takeStretch 162 = .ok (.iinc 3 1, 3) := by decide +kernel
theorem d_Md_takeStretch_165 : decode b_Md_takeStretch 165 = .ok (.goto (-18), 3) := by decide +kernel
theorem d_Md_takeStretch_168 : decode b_Md_takeStretch 168 = .ok (.iconst 0, 1) := by decide +kernel
theorem d_Md_takeStretch_169 : decode b_Md_takeStretch 169 = .ok (.istore_n 3, 1) := by decide +kernel
theorem d_Md_takeStretch_170 : decode b_Md_takeStretch 170 = .ok (.iload_n 3, 1) := by decide +kernel
theorem d_Md_takeStretch_171 : decode b_Md_takeStretch 171 = .ok (.aload_n 0, 1) := by decide +kernel
theorem d_Md_takeStretch_172 : decode b_Md_takeStretch 172 = .ok (.getfield 89, 3) := by decide +kernel
theorem d_Md_takeStretch_175 : decode b_Md_takeStretch 175 = .ok (.if_icmp .gt 132, 3) := by decide +kernel
theorem d_Md_takeStretch_178 : decode b_Md_takeStretch 178 = .ok (.iconst 0, 1) := by decide +kernel
theorem d_Md_takeStretch_179 : decode b_Md_takeStretch 179 = .ok (.istore 4, 2) := by decide +kernel
theorem d_Md_takeStretch_181 : decode b_Md_takeStretch 181 = .ok (.iload 4, 2) := by decide +kernel
theorem d_Md_takeStretch_183 : decode b_Md_takeStretch 183 = .ok (.aload_n 0, 1) := by decide +kernel
theorem d_Md_takeStretch_184 : decode b_Md_takeStretch 184 = .ok (.getfield 89, 3) := by decide +kernel
theorem d_Md_takeStretch_187 : decode b_Md_takeStretch 187 = .ok (.if_icmp .ge 114, 3) := by decide +kernel
theorem d_Md_takeStretch_190 : decode b_Md_takeStretch 190 = .ok (.aload_n 0, 1) := by decide +kernel
theorem d_Md_takeStretch_191 : decode b_Md_takeStretch 191 = .ok (.getfield 60, 3) := by decide +kernel
theorem d_Md_takeStretch_194 : decode b_Md_takeStretch 194 = .ok (.iload 4, 2) := by decide +kernel
theorem d_Md_takeStretch_196 : decode b_Md_takeStretch 196 = .ok (.iaload, 1) := by decide +kernel
theorem d_Md_takeStretch_197 : decode b_Md_takeStretch 197 = .ok (.istore 5, 2) := by decide +kernel
theorem d_Md_takeStretch_199 : decode b_Md_takeStretch 199 = .ok (.iconst 0, 1) := by decide +kernel
theorem d_Md_takeStretch_200 : decode b_Md_takeStretch 200 = .ok (.istore 6, 2) := by decide +kernel
theorem d_Md_takeStretch_202 : decode b_Md_takeStretch 202 = .ok (.iload 6, 2) := by decide +kernel
theorem d_Md_takeStretch_204 : decode b_Md_takeStretch 204 = .ok (.aload_n 0, 1) := by decide +kernel
theorem d_Md_takeStretch_205 : decode b_Md_takeStretch 205 = .ok (.getfield 103, 3) := by decide +kernel
theorem d_Md_takeStretch_208 : decode b_Md_takeStretch 208 = .ok (.if_icmp .ge 64, 3) := by decide +kernel
theorem d_Md_takeStretch_211 : decode b_Md_takeStretch 211 = .ok (.aload_n 0, 1) := by decide +kernel
theorem d_Md_takeStretch_212 : decode b_Md_takeStretch 212 = .ok (.iload 6, 2) := by decide +kernel
theorem d_Md_takeStretch_214 : decode b_Md_takeStretch 214 = .ok (.invokevirtual 172, 3) := by decide +kernel
theorem d_Md_takeStretch_217 : decode b_Md_takeStretch 217 = .ok (.ifCond .eq 45, 3) := by decide +kernel
theorem d_Md_takeStretch_220 : decode b_Md_takeStretch 220 = .ok (.aload_n 0, 1) := by decide +kernel
theorem d_Md_takeStretch_221 : decode b_Md_takeStretch 221 = .ok (.getfield 13, 3) := by decide +kernel
theorem d_Md_takeStretch_224 : decode b_Md_takeStretch 224 = .ok (.iload 6, 2) := by decide +kernel
theorem d_Md_takeStretch_226 : decode b_Md_takeStretch 226 = .ok (.iaload, 1) := by decide +kernel
theorem d_Md_takeStretch_227 : decode b_Md_takeStretch 227 = .ok (.iload 4, 2) := by decide +kernel
theorem d_Md_takeStretch_229 : decode b_Md_takeStretch 229 = .ok (.if_icmp .ne 33, 3) := by decide +kernel
theorem d_Md_takeStretch_232 : decode b_Md_takeStretch 232 = .ok (.iload 5, 2) := by decide +kernel
theorem d_Md_takeStretch_234 : decode b_Md_takeStretch 234 = .ok (.aload_n 0, 1) := by decide +kernel
theorem d_Md_takeStretch_235 : decode b_Md_takeStretch 235 = .ok (.getfield 63, 3) := by decide +kernel
theorem d_Md_takeStretch_238 : decode b_Md_takeStretch 238 = .ok (.aload_n 0, 1) := by decide +kernel
theorem d_Md_takeStretch_239 : decode b_Md_takeStretch 239 = .ok (.getfield 7, 3) := by decide +kernel
theorem d_Md_takeStretch_242 : decode b_Md_takeStretch 242 = .ok (.iconst (-1), 1) := by decide +kernel
theorem d_Md_takeStretch_243 : decode b_Md_takeStretch 243 = .ok (.aload_n 0, 1) := by decide +kernel
theorem d_Md_takeStretch_244 : decode b_Md_takeStretch 244 = .ok (.getfield 19, 3) := by decide +kernel
theorem d_Md_takeStretch_247 : decode b_Md_takeStretch 247 = .ok (.bipush 8, 2) := by decide +kernel
theorem d_Md_takeStretch_249 : decode b_Md_takeStretch 249 = .ok (.iload 6, 2) := by decide +kernel
theorem d_Md_takeStretch_251 : decode b_Md_takeStretch 251 = .ok (.imul, 1) := by decide +kernel
theorem d_Md_takeStretch_252 : decode b_Md_takeStretch 252 = .ok (.iaload, 1) := by decide +kernel
theorem d_Md_takeStretch_253 : decode b_Md_takeStretch 253 = .ok (.isub, 1) := by decide +kernel
theorem d_Md_takeStretch_254 : decode b_Md_takeStretch 254 = .ok (.iaload, 1) := by decide +kernel
theorem d_Md_takeStretch_255 : decode b_Md_takeStretch 255 = .ok (.iaload, 1) := by decide +kernel
theorem d_Md_takeStretch_256 : decode b_Md_takeStretch 256 = .ok (.invokestatic 152, 3) := by decide +kernel
theorem d_Md_takeStretch_259 : decode b_Md_takeStretch 259 = .ok (.goto 5, 3) := by decide +kernel
theorem d_Md_takeStretch_262 : decode b_Md_takeStretch 262 = .ok (.iload 5, 2) := by decide +kernel
theorem d_Md_takeStretch_264 : decode b_Md_takeStretch 264 = .ok (.istore 5, 2) := by decide +kernel
theorem d_Md_takeStretch_266 : decode b_Md_takeStretch 266 = .ok (.iinc 6 1, 3) := by decide +kernel
theorem d_Md_takeStretch_269 : decode b_Md_takeStretch 269 = .ok (.goto (-67), 3) := by decide +kernel
theorem d_Md_takeStretch_272 : decode b_Md_takeStretch 272 = .ok (.aload_n 0, 1) := by decide +kernel
theorem d_Md_takeStretch_273 : decode b_Md_takeStretch 273 = .ok (.getfield 63, 3) := by decide +kernel
theorem d_Md_takeStretch_276 : decode b_Md_takeStretch 276 = .ok (.iload 4, 2) := by decide +kernel
theorem d_Md_takeStretch_278 : decode b_Md_takeStretch 278 = .ok (.aload_n 0, 1) := by decide +kernel
theorem d_Md_takeStretch_279 : decode b_Md_takeStretch 279 = .ok (.iload 4, 2) := by decide +kernel
theorem d_Md_takeStretch_281 : decode b_Md_takeStretch 281 = .ok (.invokevirtual 182, 3) := by decide +kernel
theorem d_Md_takeStretch_284 : decode b_Md_takeStretch 284 = .ok (.ifCond .eq 8, 3) := by decide +kernel
theorem d_Md_takeStretch_287 : decode b_Md_takeStretch 287 = .ok (.bipush (-3), 2) := by decide +kernel
theorem d_Md_takeStretch_289 : decode b_Md_takeStretch 289 = .ok (.goto 5, 3) := by decide +kernel
theorem d_Md_takeStretch_292 : decode b_Md_takeStretch 292 = .ok (.iload 5, 2) := by decide +kernel
theorem d_Md_takeStretch_294 : decode b_Md_takeStretch 294 = .ok (.iastore, 1) := by decide +kernel
theorem d_Md_takeStretch_295 : decode b_Md_takeStretch 295 = .ok (.iinc 4 1, 3) := by decide +kernel
theorem d_Md_takeStretch_298 : decode b_Md_takeStretch 298 = .ok (.goto (-117), 3) := by decide +kernel
theorem d_Md_takeStretch_301 : decode b_Md_takeStretch 301 = .ok (.iinc 3 1, 3) := by decide +kernel
theorem d_Md_takeStretch_304 : decode b_Md_takeStretch 304 = .ok (.goto (-134), 3) := by decide +kernel
theorem d_Md_takeStretch_307 : decode b_Md_takeStretch 307 = .ok (.iconst 0, 1) := by decide +kernel
theorem d_Md_takeStretch_308 : decode b_Md_takeStretch 308 = .ok (.istore_n 3, 1) := by decide +kernel
theorem d_Md_takeStretch_309 : decode b_Md_takeStretch 309 = .ok (.iload_n 3, 1) := by decide +kernel
theorem d_Md_takeStretch_310 : decode b_Md_takeStretch 310 = .ok (.aload_n 0, 1) := by decide +kernel
theorem d_Md_takeStretch_311 : decode b_Md_takeStretch 311 = .ok (.getfield 89, 3) := by decide +kernel
theorem d_Md_takeStretch_314 : decode b_Md_takeStretch 314 = .ok (.if_icmp .ge 26, 3) := by decide +kernel
theorem d_Md_takeStretch_317 : decode b_Md_takeStretch 317 = .ok (.aload_n 0, 1) := by decide +kernel
theorem d_Md_takeStretch_318 : decode b_Md_takeStretch 318 = .ok (.getfield 32, 3) := by decide +kernel
theorem d_Md_takeStretch_321 : decode b_Md_takeStretch 321 = .ok (.iload_n 3, 1) := by decide +kernel
theorem d_Md_takeStretch_322 : decode b_Md_takeStretch 322 = .ok (.iload_n 1, 1) := by decide +kernel
theorem d_Md_takeStretch_323 : decode b_Md_takeStretch 323 = .ok (.iload_n 2, 1) := by decide +kernel
theorem d_Md_takeStretch_324 : decode b_Md_takeStretch 324 = .ok (.invokestatic 138, 3) := by decide +kernel
theorem d_Md_takeStretch_327 : decode b_Md_takeStretch 327 = .ok (.aload_n 0, 1) := by decide +kernel
theorem d_Md_takeStretch_328 : decode b_Md_takeStretch 328 = .ok (.getfield 63, 3) := by decide +kernel
theorem d_Md_takeStretch_331 : decode b_Md_takeStretch 331 = .ok (.iload_n 3, 1) := by decide +kernel
theorem d_Md_takeStretch_332 : decode b_Md_takeStretch 332 = .ok (.iaload, 1) := by decide +kernel
theorem d_Md_takeStretch_333 : decode b_Md_takeStretch 333 = .ok (.iastore, 1) := by decide +kernel
theorem d_Md_takeStretch_334 : decode b_Md_takeStretch 334 = .ok (.iinc 3 1, 3) := by decide +kernel
theorem d_Md_takeStretch_337 : decode b_Md_takeStretch 337 = .ok (.goto (-28), 3) := by decide +kernel
theorem d_Md_takeStretch_340 : decode b_Md_takeStretch 340 = .ok (.iconst 1, 1) := by decide +kernel
theorem d_Md_takeStretch_341 : decode b_Md_takeStretch 341 = .ok (.istore_n 3, 1) := by decide +kernel
theorem d_Md_takeStretch_342 : decode b_Md_takeStretch 342 = .ok (.iload_n 3, 1) := by decide +kernel
theorem d_Md_takeStretch_343 : decode b_Md_takeStretch 343 = .ok (.ifCond .eq 135, 3) := by decide +kernel
theorem d_Md_takeStretch_346 : decode b_Md_takeStretch 346 = .ok (.iconst 0, 1) := by decide +kernel
theorem d_Md_takeStretch_347 : decode b_Md_takeStretch 347 = .ok (.istore_n 3, 1) := by decide +kernel
theorem d_Md_takeStretch_348 : decode b_Md_takeStretch 348 = .ok (.iconst 0, 1) := by decide +kernel
theorem d_Md_takeStretch_349 : decode b_Md_takeStretch 349 = .ok (.istore 4, 2) := by decide +kernel
theorem d_Md_takeStretch_351 : decode b_Md_takeStretch 351 = .ok (.iload 4, 2) := by decide +kernel
theorem d_Md_takeStretch_353 : decode b_Md_takeStretch 353 = .ok (.aload_n 0, 1) := by decide +kernel
theorem d_Md_takeStretch_354 : decode b_Md_takeStretch 354 = .ok (.getfield 103, 3) := by decide +kernel
theorem d_Md_takeStretch_357 : decode b_Md_takeStretch 357 = .ok (.if_icmp .ge 118, 3) := by decide +kernel
theorem d_Md_takeStretch_360 : decode b_Md_takeStretch 360 = .ok (.iconst 0, 1) := by decide +kernel
theorem d_Md_takeStretch_361 : decode b_Md_takeStretch 361 = .ok (.istore 5, 2) := by decide +kernel
theorem d_Md_takeStretch_363 : decode b_Md_takeStretch 363 = .ok (.iload 5, 2) := by decide +kernel
theorem d_Md_takeStretch_365 : decode b_Md_takeStretch 365 = .ok (.iconst 2, 1) := by decide +kernel
theorem d_Md_takeStretch_366 : decode b_Md_takeStretch 366 = .ok (.if_icmp .ge 103, 3) := by decide +kernel
theorem d_Md_takeStretch_369 : decode b_Md_takeStretch 369 = .ok (.aload_n 0, 1) := by decide +kernel
theorem d_Md_takeStretch_370 : decode b_Md_takeStretch 370 = .ok (.iload 4, 2) := by decide +kernel
theorem d_Md_takeStretch_372 : decode b_Md_takeStretch 372 = .ok (.invokevirtual 172, 3) := by decide +kernel
theorem d_Md_takeStretch_375 : decode b_Md_takeStretch 375 = .ok (.ifCond .eq 94, 3) := by decide +kernel
theorem d_Md_takeStretch_378 : decode b_Md_takeStretch 378 = .ok (.iconst 2, 1) := by decide +kernel
theorem d_Md_takeStretch_379 : decode b_Md_takeStretch 379 = .ok (.aload_n 0, 1) := by decide +kernel
theorem d_Md_takeStretch_380 : decode b_Md_takeStretch 380 = .ok (.getfield 7, 3) := by decide +kernel
theorem d_Md_takeStretch_383 : decode b_Md_takeStretch 383 = .ok (.iconst (-1), 1) := by decide +kernel
theorem d_Md_takeStretch_384 : decode b_Md_takeStretch 384 = .ok (.aload_n 0, 1) := by decide +kernel
theorem d_Md_takeStretch_385 : decode b_Md_takeStretch 385 = .ok (.getfield 19, 3) := by decide +kernel
theorem d_Md_takeStretch_388 : decode b_Md_takeStretch 388 = .ok (.bipush 8, 2) := by decide +kernel
theorem d_Md_takeStretch_390 : decode b_Md_takeStretch 390 = .ok (.iload 4, 2) := by decide +kernel
theorem d_Md_takeStretch_392 : decode b_Md_takeStretch 392 = .ok (.imul, 1) := by decide +kernel
theorem d_Md_takeStretch_393 : decode b_Md_takeStretch 393 = .ok (.iaload, 1) := by decide +kernel
theorem d_Md_takeStretch_394 : decode b_Md_takeStretch 394 = .ok (.isub, 1) := by decide +kernel
theorem d_Md_takeStretch_395 : decode b_Md_takeStretch 395 = .ok (.iaload, 1) := by decide +kernel
theorem d_Md_takeStretch_396 : decode b_Md_takeStretch 396 = .ok (.iload_n 1, 1) := by decide +kernel
theorem d_Md_takeStretch_397 : decode b_Md_takeStretch 397 = .ok (.iload_n 2, 1) := by decide +kernel
theorem d_Md_takeStretch_398 : decode b_Md_takeStretch 398 = .ok (.invokestatic 138, 3) := by decide +kernel
theorem d_Md_takeStretch_401 : decode b_Md_takeStretch 401 = .ok (.imul, 1) := by decide +kernel
theorem d_Md_takeStretch_402 : decode b_Md_takeStretch 402 = .ok (.iload 5, 2) := by decide +kernel
theorem d_Md_takeStretch_404 : decode b_Md_takeStretch 404 = .ok (.iadd, 1) := by decide +kernel
theorem d_Md_takeStretch_405 : decode b_Md_takeStretch 405 = .ok (.istore 6, 2) := by decide +kernel
theorem d_Md_takeStretch_407 : decode b_Md_takeStretch 407 = .ok (.aload_n 0, 1) := by decide +kernel
theorem d_Md_takeStretch_408 : decode b_Md_takeStretch 408 = .ok (.getfield 35, 3) := by decide +kernel
theorem d_Md_takeStretch_411 : decode b_Md_takeStretch 411 = .ok (.iload 6, 2) := by decide +kernel
theorem d_Md_takeStretch_413 : decode b_Md_takeStretch 413 = .ok (.iaload, 1) := by decide +kernel
theorem d_Md_takeStretch_414 : decode b_Md_takeStretch 414 = .ok (.ifCond .le 49, 3) := by decide +kernel
theorem d_Md_takeStretch_417 : decode b_Md_takeStretch 417 = .ok (.aload_n 0, 1) := by decide +kernel
theorem d_Md_takeStretch_418 : decode b_Md_takeStretch 418 = .ok (.iconst 0, 1) := by decide +kernel
theorem d_Md_takeStretch_419 : decode b_Md_takeStretch 419 = .ok (.putfield 119, 3) := by decide +kernel
theorem d_Md_takeStretch_422 : decode b_Md_takeStretch 422 = .ok (.aload_n 0, 1) := by decide +kernel
theorem d_Md_takeStretch_423 : decode b_Md_takeStretch 423 = .ok (.iload 4, 2) := by decide +kernel
theorem d_Md_takeStretch_425 : decode b_Md_takeStretch 425 = .ok (.invokevirtual 129, 3) := by decide +kernel
theorem d_Md_takeStretch_428 : decode b_Md_takeStretch 428 = .ok (.aload_n 0, 1) := by decide +kernel
theorem d_Md_takeStretch_429 : decode b_Md_takeStretch 429 = .ok (.iload 6, 2) := by decide +kernel
theorem d_Md_takeStretch_431 : decode b_Md_takeStretch 431 = .ok (.invokevirtual 155, 3) := by decide +kernel
theorem d_Md_takeStretch_434 : decode b_Md_takeStretch 434 = .ok (.aload_n 0, 1) := by decide +kernel
theorem d_Md_takeStretch_435 : decode b_Md_takeStretch 435 = .ok (.aload_n 0, 1) := by decide +kernel
theorem d_Md_takeStretch_436 : decode b_Md_takeStretch 436 = .ok (.getfield 13, 3) := by decide +kernel
theorem d_Md_takeStretch_439 : decode b_Md_takeStretch 439 = .ok (.iload 4, 2) := by decide +kernel
theorem d_Md_takeStretch_441 : decode b_Md_takeStretch 441 = .ok (.iaload, 1) := by decide +kernel
theorem d_Md_takeStretch_442 : decode b_Md_takeStretch 442 = .ok (.iload_n 1, 1) := by decide +kernel
theorem d_Md_takeStretch_443 : decode b_Md_takeStretch 443 = .ok (.iload_n 2, 1) := by decide +kernel
theorem d_Md_takeStretch_444 : decode b_Md_takeStretch 444 = .ok (.invokestatic 138, 3) := by decide +kernel
theorem d_Md_takeStretch_447 : decode b_Md_takeStretch 447 = .ok (.invokevirtual 158, 3) := by decide +kernel
theorem d_Md_takeStretch_450 : decode b_Md_takeStretch 450 = .ok (.ifCond .ne 7, 3) := by decide +kernel
theorem d_Md_takeStretch_453 : decode b_Md_takeStretch 453 = .ok (.iload_n 3, 1) := by decide +kernel
theorem d_Md_takeStretch_454 : decode b_Md_takeStretch 454 = .ok (.ifCond .eq 7, 3) := by decide +kernel
theorem d_Md_takeStretch_457 : decode b_Md_takeStretch 457 = .ok (.iconst 1, 1) := by decide +kernel
theorem d_Md_takeStretch_458 : decode b_Md_takeStretch 458 = .ok (.goto 4, 3) := by decide +kernel
theorem d_Md_takeStretch_461 : decode b_Md_takeStretch 461 = .ok (.iconst 0, 1) := by decide +kernel
theorem d_Md_takeStretch_462 : decode b_Md_takeStretch 462 = .ok (.istore_n 3, 1) := by decide +kernel
theorem d_Md_takeStretch_463 : decode b_Md_takeStretch 463 = .ok (.iinc 5 1, 3) := by decide +kernel
theorem d_Md_takeStretch_466 : decode b_Md_takeStretch 466 = .ok (.goto (-103), 3) := by decide +kernel
theorem d_Md_takeStretch_469 : decode b_Md_takeStretch 469 = .ok (.iinc 4 1, 3) := by decide +kernel
theorem d_Md_takeStretch_472 : decode b_Md_takeStretch 472 = .ok (.goto (-121), 3) := by decide +kernel
theorem d_Md_takeStretch_475 : decode b_Md_takeStretch 475 = .ok (.goto (-133), 3) := by decide +kernel
theorem d_Md_takeStretch_478 : decode b_Md_takeStretch 478 = .ok (.return_, 1) := by decide +kernel
theorem ml_Md_179 : Cond.methodLink R_Md 179 ⟨"RuleTreesModel", "takeRule", "(III)V"⟩ ∈ TB := tb_of 910 (by decide +kernel) (by decide +kernel)
theorem u_Md_takeRule : (Cond.instanceMethod y_Md_takeRule ∈ TB ∧ Cond.selects R_Md y_Md_takeRule y_Md_takeRule ∈ TB) ∧ Cond.initialized R_Md ∈ TB ∧ Cond.code y_Md_takeRule b_Md_takeRule 8 none ∈ TB := ⟨⟨(tb_of 912 (by decide +kernel) (by decide +kernel)), (tb_of 46 (by decide +kernel) (by decide +kernel))⟩, (tb_of 70 (by decide +kernel) (by decide +kernel)), k_Md_takeRule⟩
theorem fl_Md_63 : Cond.fieldLink R_Md 63 "RuleTreesModel" "found" "[I" ∈ TB := tb_of 748 (by decide +kernel) (by decide +kernel)
theorem ml_Md_182 : Cond.methodLink R_Md 182 ⟨"RuleTreesModel", "isEndless", "(I)Z"⟩ ∈ TB := tb_of 942 (by decide +kernel) (by decide +kernel)
theorem u_Md_isEndless : (Cond.instanceMethod y_Md_isEndless ∈ TB ∧ Cond.selects R_Md y_Md_isEndless y_Md_isEndless ∈ TB) ∧ Cond.initialized R_Md ∈ TB ∧ Cond.code y_Md_isEndless b_Md_isEndless 5 (some .boolean) ∈ TB := ⟨⟨(tb_of 944 (by decide +kernel) (by decide +kernel)), (tb_of 52 (by decide +kernel) (by decide +kernel))⟩, (tb_of 70 (by decide +kernel) (by decide +kernel)), k_Md_isEndless⟩
abbrev rm_Md_takeStretch : Room := { frames := 4, cells := 0, slots := 0, locals := 104 }
def f_Md_takeStretch_2 (N : Nat) (kb : (Nat → Nat → Int32) → Int32 → Option ((Nat → Nat → Int32))) (kx51 : (Nat → Nat → Int32) → Option ((Nat → Nat → Int32))) (s_self : Nat → Nat → Int32) (v1 v2 v3 : Int32) : Option ((Nat → Nat → Int32)) :=
  if 6 ≤ v3 then
    kx51 s_self
  else
    ck v3 6 <| nm (st2 s_self 16 (Int32.toNatClampNeg v3) 0) fun s_self_3 =>
    bd1 (m_Md_cellOf v3 v1 v2) fun r_4 =>
    ck (2 * r_4) 1872 <| nm (st2 s_self_3 8 (Int32.toNatClampNeg (2 * r_4)) 0) fun s_self_7 =>
    bd1 (m_Md_cellOf v3 v1 v2) fun r_8 =>
    ck ((2 * r_8) + 1) 1872 <| nm (st2 s_self_7 8 (Int32.toNatClampNeg ((2 * r_8) + 1)) 0) fun s_self_11 =>
    nm (v3 + 1) fun v3_12 =>
    kb s_self_11 v3_12
set_option maxHeartbeats 4000000 in
set_option maxRecDepth 100000 in
theorem t_Md_takeStretch_2 {p : Program} {l : Launch} {e : Env} {s : State} {m : MethodId} {args : Array Value} {below : List Frame} {meth : Method} {c : Code} {A : Nat → Prop} {D : va_G} {K : Nat → ClassId} (a_self a_least : Nat → Nat) (X : gx p s m args c b_Md_takeStretch 7 R_Md w_Md_takeStretch D classes (tyK K) A) (hr : meth.sig.returnType = none) (hlk : meth.locks = false) (N : Nat) (f_self : Nat → Nat → Int32) (s_self : Nat → Nat → Int32) (v1 v2 v3 : Int32) (kb : (Nat → Nat → Int32) → Int32 → Option ((Nat → Nat → Int32))) (hkb : ∀ (s_self : Nat → Nat → Int32) (v3 : Int32), kb s_self v3 = some f_self → Gd p l e rm_Md_takeStretch s m args below meth c 0 0 (MQ below (sq D classes (tyK K) none [wd_Md K a_self (a_least 0) f_self] A) args s 0 0 A) D classes A 7 2 [wd_Md K a_self (a_least 0) s_self] [(0, .ref (a_self 0)), (1, .int v1), (2, .int v2), (3, .int v3)] []) (kx51 : (Nat → Nat → Int32) → Option ((Nat → Nat → Int32))) (hkx51 : ∀ (s_self : Nat → Nat → Int32), kx51 s_self = some f_self → Gd p l e rm_Md_takeStretch s m args below meth c 0 0 (MQ below (sq D classes (tyK K) none [wd_Md K a_self (a_least 0) f_self] A) args s 0 0 A) D classes A 7 51 [wd_Md K a_self (a_least 0) s_self] [(0, .ref (a_self 0)), (1, .int v1), (2, .int v2)] []) (h : f_Md_takeStretch_2 N kb kx51 s_self v1 v2 v3 = some f_self) : Gd p l e rm_Md_takeStretch s m args below meth c 0 0 (MQ below (sq D classes (tyK K) none [wd_Md K a_self (a_least 0) f_self] A) args s 0 0 A) D classes A 7 2 [wd_Md K a_self (a_least 0) s_self] [(0, .ref (a_self 0)), (1, .int v1), (2, .int v2), (3, .int v3)] [] := by
  unfold f_Md_takeStretch_2 at h
  refine gd_iload_n X d_Md_takeStretch_2 3 rfl ?_
  refine gd_bipush X (v := 6) d_Md_takeStretch_3 (by decide) ?_
  refine gd_icmp_ge X (tgt := 51) d_Md_takeStretch_5 (by decide) (fun c_1 => ?_) (fun c_1 => ?_)
  · replace h := it_p c_1 h
    refine gd_loc (lv' := [(0, .ref (a_self 0)), (1, .int v1), (2, .int v2)]) [0, 1, 2] rfl ?_
    exact hkx51 s_self h
  · replace h := it_n c_1 h
    refine gd_aload_n X d_Md_takeStretch_8 0 rfl ?_
    refine gd_get X (ci := 7) (C := R_Md) (T := F_Md) (N := 36) (v := .ref (a_self 16)) 0 0 rfl rfl rfl (in_Md _) 27 (by decide) (List.mem_cons_of_mem _ fl_Md_60) rfl rfl d_Md_takeStretch_9 ?_
    refine gd_iload_n X d_Md_takeStretch_12 3 rfl ?_
    refine gd_iconst X (v := 0) d_Md_takeStretch_13 (by decide) ?_
    obtain ⟨hi_2, h⟩ := ck_e h
    obtain ⟨s_self_3, es_self_3, h⟩ := nm_e' h
    refine gd_iast X (w' := [wd_Md K a_self (a_least 0) s_self_3]) 0 16 0 rfl rfl rfl hi_2 d_Md_takeStretch_14 (by rw [es_self_3]; rfl) ?_
    refine gd_aload_n X d_Md_takeStretch_15 0 rfl ?_
    refine gd_get X (ci := 7) (C := R_Md) (T := F_Md) (N := 36) (v := .ref (a_self 8)) 0 0 rfl rfl rfl (in_Md _) 16 (by decide) (List.mem_cons_of_mem _ fl_Md_35) rfl rfl d_Md_takeStretch_16 ?_
    refine gd_iconst X (v := 2) d_Md_takeStretch_19 (by decide) ?_
    refine gd_iload_n X d_Md_takeStretch_20 3 rfl ?_
    refine gd_iload_n X d_Md_takeStretch_21 1 rfl ?_
    refine gd_iload_n X d_Md_takeStretch_22 2 rfl ?_
    obtain ⟨r_4, hc_5, h⟩ := bd1_e h
    refine gd_pI X (gd_Sc X (As := [.int v3, .int v1, .int v2]) (rest := [.int 2, .ref (a_self 8)]) (c_Md_cellOf l D K v3 v1 v2 r_4 hc_5) 3 (gi_S ml_Md_138 u_Md_cellOf) rfl ⟨rfl, rfl⟩ (by decide +kernel) ⟨by decide, by decide⟩ rfl rfl (Nat.le_of_ble_eq_true rfl) ⟨Nat.zero_le _, Nat.zero_le _⟩ d_Md_takeStretch_23) [] rfl rfl ?_
    refine gd_imul X d_Md_takeStretch_26 ?_
    refine gd_iconst X (v := 0) d_Md_takeStretch_27 (by decide) ?_
    obtain ⟨hi_6, h⟩ := ck_e h
    obtain ⟨s_self_7, es_self_7, h⟩ := nm_e' h
    refine gd_iast X (w' := [wd_Md K a_self (a_least 0) s_self_7]) 0 8 0 rfl rfl rfl hi_6 d_Md_takeStretch_28 (by rw [es_self_7]; rfl) ?_
    refine gd_aload_n X d_Md_takeStretch_29 0 rfl ?_
    refine gd_get X (ci := 7) (C := R_Md) (T := F_Md) (N := 36) (v := .ref (a_self 8)) 0 0 rfl rfl rfl (in_Md _) 16 (by decide) (List.mem_cons_of_mem _ fl_Md_35) rfl rfl d_Md_takeStretch_30 ?_
    refine gd_iconst X (v := 2) d_Md_takeStretch_33 (by decide) ?_
    refine gd_iload_n X d_Md_takeStretch_34 3 rfl ?_
    refine gd_iload_n X d_Md_takeStretch_35 1 rfl ?_
    refine gd_iload_n X d_Md_takeStretch_36 2 rfl ?_
    obtain ⟨r_8, hc_9, h⟩ := bd1_e h
    refine gd_pI X (gd_Sc X (As := [.int v3, .int v1, .int v2]) (rest := [.int 2, .ref (a_self 8)]) (c_Md_cellOf l D K v3 v1 v2 r_8 hc_9) 3 (gi_S ml_Md_138 u_Md_cellOf) rfl ⟨rfl, rfl⟩ (by decide +kernel) ⟨by decide, by decide⟩ rfl rfl (Nat.le_of_ble_eq_true rfl) ⟨Nat.zero_le _, Nat.zero_le _⟩ d_Md_takeStretch_37) [] rfl rfl ?_
    refine gd_imul X d_Md_takeStretch_40 ?_
    refine gd_iconst X (v := 1) d_Md_takeStretch_41 (by decide) ?_
    refine gd_iadd X d_Md_takeStretch_42 ?_
    refine gd_iconst X (v := 0) d_Md_takeStretch_43 (by decide) ?_
    obtain ⟨hi_10, h⟩ := ck_e h
    obtain ⟨s_self_11, es_self_11, h⟩ := nm_e' h
    refine gd_iast X (w' := [wd_Md K a_self (a_least 0) s_self_11]) 0 8 0 rfl rfl rfl hi_10 d_Md_takeStretch_44 (by rw [es_self_11]; rfl) ?_
    obtain ⟨v3_12, ev3_12, h⟩ := nm_e' h
    refine gd_iinc X (v := v3_12) (lv' := [(3, .int v3_12), (0, .ref (a_self 0)), (1, .int v1), (2, .int v2)]) d_Md_takeStretch_45 (k := 3) rfl (by rw [ev3_12]; rfl) (by decide) rfl ?_
    refine gd_goto X (tgt := 2) d_Md_takeStretch_48 (by decide) ?_
    refine gd_loc (lv' := [(0, .ref (a_self 0)), (1, .int v1), (2, .int v2), (3, .int v3_12)]) [1, 2, 3, 0] rfl ?_
    exact hkb s_self_11 v3_12 h
def f_Md_takeStretch_116 (N : Nat) (kb : (Nat → Nat → Int32) → Int32 → Option ((Nat → Nat → Int32))) (kx145 : (Nat → Nat → Int32) → Option ((Nat → Nat → Int32))) (s_self : Nat → Nat → Int32) (v1 v2 v3 : Int32) : Option ((Nat → Nat → Int32)) :=
  if (s_self 0 4) ≤ v3 then
    kx145 s_self
  else
    bd1 (m_Md_isPlain s_self v3) fun r_2 =>
    if r_2 = 0 then
      bd1 (m_Md_takeRule N s_self v3 v1 v2) fun s_self_6 =>
      nm (v3 + 1) fun v3_8 =>
      kb s_self_6 v3_8
    else
      nm (v3 + 1) fun v3_5 =>
      kb s_self v3_5
set_option maxHeartbeats 4000000 in
set_option maxRecDepth 100000 in
theorem t_Md_takeStretch_116 {p : Program} {l : Launch} {e : Env} {s : State} {m : MethodId} {args : Array Value} {below : List Frame} {meth : Method} {c : Code} {A : Nat → Prop} {D : va_G} {K : Nat → ClassId} (a_self a_least : Nat → Nat) (X : gx p s m args c b_Md_takeStretch 7 R_Md w_Md_takeStretch D classes (tyK K) A) (hr : meth.sig.returnType = none) (hlk : meth.locks = false) (N : Nat) (f_self : Nat → Nat → Int32) (s_self : Nat → Nat → Int32) (v1 v2 v3 : Int32) (kb : (Nat → Nat → Int32) → Int32 → Option ((Nat → Nat → Int32))) (hkb : ∀ (s_self : Nat → Nat → Int32) (v3 : Int32), kb s_self v3 = some f_self → Gd p l e rm_Md_takeStretch s m args below meth c 0 0 (MQ below (sq D classes (tyK K) none [wd_Md K a_self (a_least 0) f_self] A) args s 0 0 A) D classes A 7 116 [wd_Md K a_self (a_least 0) s_self] [(0, .ref (a_self 0)), (1, .int v1), (2, .int v2), (3, .int v3)] []) (kx145 : (Nat → Nat → Int32) → Option ((Nat → Nat → Int32))) (hkx145 : ∀ (s_self : Nat → Nat → Int32), kx145 s_self = some f_self → Gd p l e rm_Md_takeStretch s m args below meth c 0 0 (MQ below (sq D classes (tyK K) none [wd_Md K a_self (a_least 0) f_self] A) args s 0 0 A) D classes A 7 145 [wd_Md K a_self (a_least 0) s_self] [(0, .ref (a_self 0)), (1, .int v1), (2, .int v2)] []) (h : f_Md_takeStretch_116 N kb kx145 s_self v1 v2 v3 = some f_self) : Gd p l e rm_Md_takeStretch s m args below meth c 0 0 (MQ below (sq D classes (tyK K) none [wd_Md K a_self (a_least 0) f_self] A) args s 0 0 A) D classes A 7 116 [wd_Md K a_self (a_least 0) s_self] [(0, .ref (a_self 0)), (1, .int v1), (2, .int v2), (3, .int v3)] [] := by
  unfold f_Md_takeStretch_116 at h
  refine gd_iload_n X d_Md_takeStretch_116 3 rfl ?_
  refine gd_aload_n X d_Md_takeStretch_117 0 rfl ?_
  refine gd_get X (ci := 7) (C := R_Md) (T := F_Md) (N := 36) (v := .int (s_self 0 4)) 0 0 rfl rfl rfl (in_Md _) 4 (by decide) (List.mem_cons_of_mem _ fl_Md_103) rfl rfl d_Md_takeStretch_118 ?_
  refine gd_icmp_ge X (tgt := 145) d_Md_takeStretch_121 (by decide) (fun c_1 => ?_) (fun c_1 => ?_)
  · replace h := it_p c_1 h
    refine gd_loc (lv' := [(0, .ref (a_self 0)), (1, .int v1), (2, .int v2)]) [0, 1, 2] rfl ?_
    exact hkx145 s_self h
  · replace h := it_n c_1 h
    refine gd_aload_n X d_Md_takeStretch_124 0 rfl ?_
    refine gd_iload_n X d_Md_takeStretch_125 3 rfl ?_
    obtain ⟨r_2, hc_3, h⟩ := bd1_e h
    refine gd_fI X (gd_V X (As := [.int v3]) (rest := []) (c_Md_isPlain l D K a_self a_least s_self v3 r_2 hc_3) 1 (gi_V ml_Md_172 u_Md_isPlain) rfl ⟨rfl, rfl⟩ (by decide +kernel) ⟨by decide, by decide⟩ (ci := 7) rfl rfl rfl rfl rfl rfl (Nat.le_of_ble_eq_true rfl) ⟨Nat.zero_le _, Nat.zero_le _⟩ d_Md_takeStretch_126) ?_
    refine gd_if_ne X (tgt := 139) d_Md_takeStretch_129 (by decide) (fun c_4 => ?_) (fun c_4 => ?_)
    · replace h := it_n c_4 h
      obtain ⟨v3_5, ev3_5, h⟩ := nm_e' h
      refine gd_iinc X (v := v3_5) (lv' := [(3, .int v3_5), (0, .ref (a_self 0)), (1, .int v1), (2, .int v2)]) d_Md_takeStretch_139 (k := 3) rfl (by rw [ev3_5]; rfl) (by decide) rfl ?_
      refine gd_goto X (tgt := 116) d_Md_takeStretch_142 (by decide) ?_
      refine gd_loc (lv' := [(0, .ref (a_self 0)), (1, .int v1), (2, .int v2), (3, .int v3_5)]) [1, 2, 3, 0] rfl ?_
      exact hkb s_self v3_5 h
    · replace h := it_p c_4 h
      refine gd_aload_n X d_Md_takeStretch_132 0 rfl ?_
      refine gd_iload_n X d_Md_takeStretch_133 3 rfl ?_
      refine gd_iload_n X d_Md_takeStretch_134 1 rfl ?_
      refine gd_iload_n X d_Md_takeStretch_135 2 rfl ?_
      obtain ⟨s_self_6, hc_7, h⟩ := bd1_e h
      refine gd_fv X (w1 := [wd_Md K a_self (a_least 0) s_self_6]) (gd_V X (As := [.int v3, .int v1, .int v2]) (rest := []) (c_Md_takeRule l D K a_self a_least N s_self v3 v1 v2 s_self_6 hc_7) 3 (gi_V ml_Md_179 u_Md_takeRule) rfl ⟨rfl, rfl⟩ (by decide +kernel) ⟨by decide, by decide⟩ (ci := 7) rfl rfl rfl rfl rfl rfl (Nat.le_of_ble_eq_true rfl) ⟨Nat.zero_le _, Nat.zero_le _⟩ d_Md_takeStretch_136) ?_
      obtain ⟨v3_8, ev3_8, h⟩ := nm_e' h
      refine gd_iinc X (v := v3_8) (lv' := [(3, .int v3_8), (0, .ref (a_self 0)), (1, .int v1), (2, .int v2)]) d_Md_takeStretch_139 (k := 3) rfl (by rw [ev3_8]; rfl) (by decide) rfl ?_
      refine gd_goto X (tgt := 116) d_Md_takeStretch_142 (by decide) ?_
      refine gd_loc (lv' := [(0, .ref (a_self 0)), (1, .int v1), (2, .int v2), (3, .int v3_8)]) [1, 2, 3, 0] rfl ?_
      exact hkb s_self_6 v3_8 h
def f_Md_takeStretch_147 (N : Nat) (kb : (Nat → Nat → Int32) → Int32 → Option ((Nat → Nat → Int32))) (kx168 : (Nat → Nat → Int32) → Option ((Nat → Nat → Int32))) (s_self : Nat → Nat → Int32) (v1 v2 v3 : Int32) : Option ((Nat → Nat → Int32)) :=
  if (s_self 0 1) ≤ v3 then
    kx168 s_self
  else
    ck v3 6 <| nm (st2 s_self 17 (Int32.toNatClampNeg v3) 0) fun s_self_3 =>
    nm (v3 + 1) fun v3_4 =>
    kb s_self_3 v3_4
set_option maxHeartbeats 4000000 in
set_option maxRecDepth 100000 in
theorem t_Md_takeStretch_147 {p : Program} {l : Launch} {e : Env} {s : State} {m : MethodId} {args : Array Value} {below : List Frame} {meth : Method} {c : Code} {A : Nat → Prop} {D : va_G} {K : Nat → ClassId} (a_self a_least : Nat → Nat) (X : gx p s m args c b_Md_takeStretch 7 R_Md w_Md_takeStretch D classes (tyK K) A) (hr : meth.sig.returnType = none) (hlk : meth.locks = false) (N : Nat) (f_self : Nat → Nat → Int32) (s_self : Nat → Nat → Int32) (v1 v2 v3 : Int32) (kb : (Nat → Nat → Int32) → Int32 → Option ((Nat → Nat → Int32))) (hkb : ∀ (s_self : Nat → Nat → Int32) (v3 : Int32), kb s_self v3 = some f_self → Gd p l e rm_Md_takeStretch s m args below meth c 0 0 (MQ below (sq D classes (tyK K) none [wd_Md K a_self (a_least 0) f_self] A) args s 0 0 A) D classes A 7 147 [wd_Md K a_self (a_least 0) s_self] [(0, .ref (a_self 0)), (1, .int v1), (2, .int v2), (3, .int v3)] []) (kx168 : (Nat → Nat → Int32) → Option ((Nat → Nat → Int32))) (hkx168 : ∀ (s_self : Nat → Nat → Int32), kx168 s_self = some f_self → Gd p l e rm_Md_takeStretch s m args below meth c 0 0 (MQ below (sq D classes (tyK K) none [wd_Md K a_self (a_least 0) f_self] A) args s 0 0 A) D classes A 7 168 [wd_Md K a_self (a_least 0) s_self] [(0, .ref (a_self 0)), (1, .int v1), (2, .int v2)] []) (h : f_Md_takeStretch_147 N kb kx168 s_self v1 v2 v3 = some f_self) : Gd p l e rm_Md_takeStretch s m args below meth c 0 0 (MQ below (sq D classes (tyK K) none [wd_Md K a_self (a_least 0) f_self] A) args s 0 0 A) D classes A 7 147 [wd_Md K a_self (a_least 0) s_self] [(0, .ref (a_self 0)), (1, .int v1), (2, .int v2), (3, .int v3)] [] := by
  unfold f_Md_takeStretch_147 at h
  refine gd_iload_n X d_Md_takeStretch_147 3 rfl ?_
  refine gd_aload_n X d_Md_takeStretch_148 0 rfl ?_
  refine gd_get X (ci := 7) (C := R_Md) (T := F_Md) (N := 36) (v := .int (s_self 0 1)) 0 0 rfl rfl rfl (in_Md _) 1 (by decide) (List.mem_cons_of_mem _ fl_Md_89) rfl rfl d_Md_takeStretch_149 ?_
  refine gd_icmp_ge X (tgt := 168) d_Md_takeStretch_152 (by decide) (fun c_1 => ?_) (fun c_1 => ?_)
  · replace h := it_p c_1 h
    refine gd_loc (lv' := [(0, .ref (a_self 0)), (1, .int v1), (2, .int v2)]) [0, 1, 2] rfl ?_
    exact hkx168 s_self h
  · replace h := it_n c_1 h
    refine gd_aload_n X d_Md_takeStretch_155 0 rfl ?_
    refine gd_get X (ci := 7) (C := R_Md) (T := F_Md) (N := 36) (v := .ref (a_self 17)) 0 0 rfl rfl rfl (in_Md _) 28 (by decide) (List.mem_cons_of_mem _ fl_Md_63) rfl rfl d_Md_takeStretch_156 ?_
    refine gd_iload_n X d_Md_takeStretch_159 3 rfl ?_
    refine gd_iconst X (v := 0) d_Md_takeStretch_160 (by decide) ?_
    obtain ⟨hi_2, h⟩ := ck_e h
    obtain ⟨s_self_3, es_self_3, h⟩ := nm_e' h
    refine gd_iast X (w' := [wd_Md K a_self (a_least 0) s_self_3]) 0 17 0 rfl rfl rfl hi_2 d_Md_takeStretch_161 (by rw [es_self_3]; rfl) ?_
    obtain ⟨v3_4, ev3_4, h⟩ := nm_e' h
    refine gd_iinc X (v := v3_4) (lv' := [(3, .int v3_4), (0, .ref (a_self 0)), (1, .int v1), (2, .int v2)]) d_Md_takeStretch_162 (k := 3) rfl (by rw [ev3_4]; rfl) (by decide) rfl ?_
    refine gd_goto X (tgt := 147) d_Md_takeStretch_165 (by decide) ?_
    refine gd_loc (lv' := [(0, .ref (a_self 0)), (1, .int v1), (2, .int v2), (3, .int v3_4)]) [1, 2, 3, 0] rfl ?_
    exact hkb s_self_3 v3_4 h
def f_Md_takeStretch_202 (N : Nat) (kb : Int32 → Int32 → Option ((Nat → Nat → Int32))) (kx272 : Int32 → Option ((Nat → Nat → Int32))) (s_self : Nat → Nat → Int32) (v1 v2 v3 v4 v5 v6 : Int32) : Option ((Nat → Nat → Int32)) :=
  if (s_self 0 4) ≤ v6 then
    kx272 v5
  else
    bd1 (m_Md_isPlain s_self v6) fun r_2 =>
    if r_2 = 0 then
      nm (v6 + 1) fun v6_5 =>
      kb v5 v6_5
    else
      ck v6 31 <|
      if (s_self 2 (Int32.toNatClampNeg v6)) = v4 then
        ck (8 * v6) 248 <|
        ck ((-1) - (s_self 4 (Int32.toNatClampNeg (8 * v6)))) 20 <|
        ck (s_self 1 (Int32.toNatClampNeg ((-1) - (s_self 4 (Int32.toNatClampNeg (8 * v6)))))) 6 <|
        bd1 (m_Md_sum v5 (s_self 17 (Int32.toNatClampNeg (s_self 1 (Int32.toNatClampNeg ((-1) - (s_self 4 (Int32.toNatClampNeg (8 * v6))))))))) fun r_12 =>
        nm (v6 + 1) fun v6_14 =>
        kb r_12 v6_14
      else
        nm (v6 + 1) fun v6_8 =>
        kb v5 v6_8
set_option maxHeartbeats 4000000 in
set_option maxRecDepth 100000 in
theorem t_Md_takeStretch_202 {p : Program} {l : Launch} {e : Env} {s : State} {m : MethodId} {args : Array Value} {below : List Frame} {meth : Method} {c : Code} {A : Nat → Prop} {D : va_G} {K : Nat → ClassId} (a_self a_least : Nat → Nat) (X : gx p s m args c b_Md_takeStretch 7 R_Md w_Md_takeStretch D classes (tyK K) A) (hr : meth.sig.returnType = none) (hlk : meth.locks = false) (N : Nat) (f_self : Nat → Nat → Int32) (s_self : Nat → Nat → Int32) (v1 v2 v3 v4 v5 v6 : Int32) (kb : Int32 → Int32 → Option ((Nat → Nat → Int32))) (hkb : ∀ (v5 v6 : Int32), kb v5 v6 = some f_self → Gd p l e rm_Md_takeStretch s m args below meth c 0 0 (MQ below (sq D classes (tyK K) none [wd_Md K a_self (a_least 0) f_self] A) args s 0 0 A) D classes A 7 202 [wd_Md K a_self (a_least 0) s_self] [(0, .ref (a_self 0)), (1, .int v1), (2, .int v2), (3, .int v3), (4, .int v4), (5, .int v5), (6, .int v6)] []) (kx272 : Int32 → Option ((Nat → Nat → Int32))) (hkx272 : ∀ (v5 : Int32), kx272 v5 = some f_self → Gd p l e rm_Md_takeStretch s m args below meth c 0 0 (MQ below (sq D classes (tyK K) none [wd_Md K a_self (a_least 0) f_self] A) args s 0 0 A) D classes A 7 272 [wd_Md K a_self (a_least 0) s_self] [(0, .ref (a_self 0)), (1, .int v1), (2, .int v2), (3, .int v3), (4, .int v4), (5, .int v5)] []) (h : f_Md_takeStretch_202 N kb kx272 s_self v1 v2 v3 v4 v5 v6 = some f_self) : Gd p l e rm_Md_takeStretch s m args below meth c 0 0 (MQ below (sq D classes (tyK K) none [wd_Md K a_self (a_least 0) f_self] A) args s 0 0 A) D classes A 7 202 [wd_Md K a_self (a_least 0) s_self] [(0, .ref (a_self 0)), (1, .int v1), (2, .int v2), (3, .int v3), (4, .int v4), (5, .int v5), (6, .int v6)] [] := by
  unfold f_Md_takeStretch_202 at h
  refine gd_iload X d_Md_takeStretch_202 6 rfl ?_
  refine gd_aload_n X d_Md_takeStretch_204 0 rfl ?_
  refine gd_get X (ci := 7) (C := R_Md) (T := F_Md) (N := 36) (v := .int (s_self 0 4)) 0 0 rfl rfl rfl (in_Md _) 4 (by decide) (List.mem_cons_of_mem _ fl_Md_103) rfl rfl d_Md_takeStretch_205 ?_
  refine gd_icmp_ge X (tgt := 272) d_Md_takeStretch_208 (by decide) (fun c_1 => ?_) (fun c_1 => ?_)
  · replace h := it_p c_1 h
    refine gd_loc (lv' := [(0, .ref (a_self 0)), (1, .int v1), (2, .int v2), (3, .int v3), (4, .int v4), (5, .int v5)]) [0, 1, 2, 3, 4, 5] rfl ?_
    exact hkx272 v5 h
  · replace h := it_n c_1 h
    refine gd_aload_n X d_Md_takeStretch_211 0 rfl ?_
    refine gd_iload X d_Md_takeStretch_212 6 rfl ?_
    obtain ⟨r_2, hc_3, h⟩ := bd1_e h
    refine gd_fI X (gd_V X (As := [.int v6]) (rest := []) (c_Md_isPlain l D K a_self a_least s_self v6 r_2 hc_3) 1 (gi_V ml_Md_172 u_Md_isPlain) rfl ⟨rfl, rfl⟩ (by decide +kernel) ⟨by decide, by decide⟩ (ci := 7) rfl rfl rfl rfl rfl rfl (Nat.le_of_ble_eq_true rfl) ⟨Nat.zero_le _, Nat.zero_le _⟩ d_Md_takeStretch_214) ?_
    refine gd_if_eq X (tgt := 262) d_Md_takeStretch_217 (by decide) (fun c_4 => ?_) (fun c_4 => ?_)
    · replace h := it_p c_4 h
      refine gd_iload X d_Md_takeStretch_262 5 rfl ?_
      refine gd_istore X (lv' := [(5, .int v5), (0, .ref (a_self 0)), (1, .int v1), (2, .int v2), (3, .int v3), (4, .int v4), (6, .int v6)]) d_Md_takeStretch_264 (by decide) rfl ?_
      obtain ⟨v6_5, ev6_5, h⟩ := nm_e' h
      refine gd_iinc X (v := v6_5) (lv' := [(6, .int v6_5), (5, .int v5), (0, .ref (a_self 0)), (1, .int v1), (2, .int v2), (3, .int v3), (4, .int v4)]) d_Md_takeStretch_266 (k := 6) rfl (by rw [ev6_5]; rfl) (by decide) rfl ?_
      refine gd_goto X (tgt := 202) d_Md_takeStretch_269 (by decide) ?_
      refine gd_loc (lv' := [(0, .ref (a_self 0)), (1, .int v1), (2, .int v2), (3, .int v3), (4, .int v4), (5, .int v5), (6, .int v6_5)]) [2, 3, 4, 5, 6, 1, 0] rfl ?_
      exact hkb v5 v6_5 h
    · replace h := it_n c_4 h
      refine gd_aload_n X d_Md_takeStretch_220 0 rfl ?_
      refine gd_get X (ci := 7) (C := R_Md) (T := F_Md) (N := 36) (v := .ref (a_self 2)) 0 0 rfl rfl rfl (in_Md _) 6 (by decide) (List.mem_cons_of_mem _ fl_Md_13) rfl rfl d_Md_takeStretch_221 ?_
      refine gd_iload X d_Md_takeStretch_224 6 rfl ?_
      obtain ⟨hi_6, h⟩ := ck_e h
      refine gd_iald X 0 2 0 rfl rfl rfl hi_6 d_Md_takeStretch_226 ?_
      refine gd_iload X d_Md_takeStretch_227 4 rfl ?_
      refine gd_icmp_ne X (tgt := 262) d_Md_takeStretch_229 (by decide) (fun c_7 => ?_) (fun c_7 => ?_)
      · replace h := it_n c_7 h
        refine gd_iload X d_Md_takeStretch_262 5 rfl ?_
        refine gd_istore X (lv' := [(5, .int v5), (0, .ref (a_self 0)), (1, .int v1), (2, .int v2), (3, .int v3), (4, .int v4), (6, .int v6)]) d_Md_takeStretch_264 (by decide) rfl ?_
        obtain ⟨v6_8, ev6_8, h⟩ := nm_e' h
        refine gd_iinc X (v := v6_8) (lv' := [(6, .int v6_8), (5, .int v5), (0, .ref (a_self 0)), (1, .int v1), (2, .int v2), (3, .int v3), (4, .int v4)]) d_Md_takeStretch_266 (k := 6) rfl (by rw [ev6_8]; rfl) (by decide) rfl ?_
        refine gd_goto X (tgt := 202) d_Md_takeStretch_269 (by decide) ?_
        refine gd_loc (lv' := [(0, .ref (a_self 0)), (1, .int v1), (2, .int v2), (3, .int v3), (4, .int v4), (5, .int v5), (6, .int v6_8)]) [2, 3, 4, 5, 6, 1, 0] rfl ?_
        exact hkb v5 v6_8 h
      · replace h := it_p c_7 h
        refine gd_iload X d_Md_takeStretch_232 5 rfl ?_
        refine gd_aload_n X d_Md_takeStretch_234 0 rfl ?_
        refine gd_get X (ci := 7) (C := R_Md) (T := F_Md) (N := 36) (v := .ref (a_self 17)) 0 0 rfl rfl rfl (in_Md _) 28 (by decide) (List.mem_cons_of_mem _ fl_Md_63) rfl rfl d_Md_takeStretch_235 ?_
        refine gd_aload_n X d_Md_takeStretch_238 0 rfl ?_
        refine gd_get X (ci := 7) (C := R_Md) (T := F_Md) (N := 36) (v := .ref (a_self 1)) 0 0 rfl rfl rfl (in_Md _) 3 (by decide) (List.mem_cons_of_mem _ fl_Md_7) rfl rfl d_Md_takeStretch_239 ?_
        refine gd_iconst X (v := (-1)) d_Md_takeStretch_242 (by decide) ?_
        refine gd_aload_n X d_Md_takeStretch_243 0 rfl ?_
        refine gd_get X (ci := 7) (C := R_Md) (T := F_Md) (N := 36) (v := .ref (a_self 4)) 0 0 rfl rfl rfl (in_Md _) 8 (by decide) (List.mem_cons_of_mem _ fl_Md_19) rfl rfl d_Md_takeStretch_244 ?_
        refine gd_bipush X (v := 8) d_Md_takeStretch_247 (by decide) ?_
        refine gd_iload X d_Md_takeStretch_249 6 rfl ?_
        refine gd_imul X d_Md_takeStretch_251 ?_
        obtain ⟨hi_9, h⟩ := ck_e h
        refine gd_iald X 0 4 0 rfl rfl rfl hi_9 d_Md_takeStretch_252 ?_
        refine gd_isub X d_Md_takeStretch_253 ?_
        obtain ⟨hi_10, h⟩ := ck_e h
        refine gd_iald X 0 1 0 rfl rfl rfl hi_10 d_Md_takeStretch_254 ?_
        obtain ⟨hi_11, h⟩ := ck_e h
        refine gd_iald X 0 17 0 rfl rfl rfl hi_11 d_Md_takeStretch_255 ?_
        obtain ⟨r_12, hc_13, h⟩ := bd1_e h
        refine gd_pI X (gd_Sc X (As := [.int v5, .int (s_self 17 (Int32.toNatClampNeg (s_self 1 (Int32.toNatClampNeg ((-1) - (s_self 4 (Int32.toNatClampNeg (8 * v6))))))))]) (rest := []) (c_Md_sum l D K v5 (s_self 17 (Int32.toNatClampNeg (s_self 1 (Int32.toNatClampNeg ((-1) - (s_self 4 (Int32.toNatClampNeg (8 * v6)))))))) r_12 hc_13) 2 (gi_S ml_Md_152 u_Md_sum) rfl ⟨rfl, rfl⟩ (by decide +kernel) ⟨by decide, by decide⟩ rfl rfl (Nat.le_of_ble_eq_true rfl) ⟨Nat.zero_le _, Nat.zero_le _⟩ d_Md_takeStretch_256) [] rfl rfl ?_
        refine gd_goto X (tgt := 264) d_Md_takeStretch_259 (by decide) ?_
        refine gd_istore X (lv' := [(5, .int r_12), (0, .ref (a_self 0)), (1, .int v1), (2, .int v2), (3, .int v3), (4, .int v4), (6, .int v6)]) d_Md_takeStretch_264 (by decide) rfl ?_
        obtain ⟨v6_14, ev6_14, h⟩ := nm_e' h
        refine gd_iinc X (v := v6_14) (lv' := [(6, .int v6_14), (5, .int r_12), (0, .ref (a_self 0)), (1, .int v1), (2, .int v2), (3, .int v3), (4, .int v4)]) d_Md_takeStretch_266 (k := 6) rfl (by rw [ev6_14]; rfl) (by decide) rfl ?_
        refine gd_goto X (tgt := 202) d_Md_takeStretch_269 (by decide) ?_
        refine gd_loc (lv' := [(0, .ref (a_self 0)), (1, .int v1), (2, .int v2), (3, .int v3), (4, .int v4), (5, .int r_12), (6, .int v6_14)]) [2, 3, 4, 5, 6, 1, 0] rfl ?_
        exact hkb r_12 v6_14 h
def f_Md_takeStretch_272 (N : Nat) (kb : (Nat → Nat → Int32) → Int32 → Option ((Nat → Nat → Int32))) (kx301 : (Nat → Nat → Int32) → Option ((Nat → Nat → Int32))) (s_self : Nat → Nat → Int32) (v1 v2 v3 v4 v5 : Int32) : Option ((Nat → Nat → Int32)) :=
  bd1 (m_Md_isEndless N s_self v4) fun r_1 =>
  if r_1 = 0 then
    ck v4 6 <| nm (st2 s_self 17 (Int32.toNatClampNeg v4) v5) fun s_self_5 =>
    nm (v4 + 1) fun v4_6 =>
    kb s_self_5 v4_6
  else
    ck v4 6 <| nm (st2 s_self 17 (Int32.toNatClampNeg v4) (-3)) fun s_self_8 =>
    nm (v4 + 1) fun v4_9 =>
    kb s_self_8 v4_9
set_option maxHeartbeats 4000000 in
set_option maxRecDepth 100000 in
theorem t_Md_takeStretch_272 {p : Program} {l : Launch} {e : Env} {s : State} {m : MethodId} {args : Array Value} {below : List Frame} {meth : Method} {c : Code} {A : Nat → Prop} {D : va_G} {K : Nat → ClassId} (a_self a_least : Nat → Nat) (X : gx p s m args c b_Md_takeStretch 7 R_Md w_Md_takeStretch D classes (tyK K) A) (hr : meth.sig.returnType = none) (hlk : meth.locks = false) (N : Nat) (f_self : Nat → Nat → Int32) (s_self : Nat → Nat → Int32) (v1 v2 v3 v4 v5 : Int32) (kb : (Nat → Nat → Int32) → Int32 → Option ((Nat → Nat → Int32))) (hkb : ∀ (s_self : Nat → Nat → Int32) (v4 : Int32), kb s_self v4 = some f_self → Gd p l e rm_Md_takeStretch s m args below meth c 0 0 (MQ below (sq D classes (tyK K) none [wd_Md K a_self (a_least 0) f_self] A) args s 0 0 A) D classes A 7 181 [wd_Md K a_self (a_least 0) s_self] [(0, .ref (a_self 0)), (1, .int v1), (2, .int v2), (3, .int v3), (4, .int v4)] []) (kx301 : (Nat → Nat → Int32) → Option ((Nat → Nat → Int32))) (hkx301 : ∀ (s_self : Nat → Nat → Int32), kx301 s_self = some f_self → Gd p l e rm_Md_takeStretch s m args below meth c 0 0 (MQ below (sq D classes (tyK K) none [wd_Md K a_self (a_least 0) f_self] A) args s 0 0 A) D classes A 7 301 [wd_Md K a_self (a_least 0) s_self] [(0, .ref (a_self 0)), (1, .int v1), (2, .int v2), (3, .int v3)] []) (h : f_Md_takeStretch_272 N kb kx301 s_self v1 v2 v3 v4 v5 = some f_self) : Gd p l e rm_Md_takeStretch s m args below meth c 0 0 (MQ below (sq D classes (tyK K) none [wd_Md K a_self (a_least 0) f_self] A) args s 0 0 A) D classes A 7 272 [wd_Md K a_self (a_least 0) s_self] [(0, .ref (a_self 0)), (1, .int v1), (2, .int v2), (3, .int v3), (4, .int v4), (5, .int v5)] [] := by
  unfold f_Md_takeStretch_272 at h
  refine gd_aload_n X d_Md_takeStretch_272 0 rfl ?_
  refine gd_get X (ci := 7) (C := R_Md) (T := F_Md) (N := 36) (v := .ref (a_self 17)) 0 0 rfl rfl rfl (in_Md _) 28 (by decide) (List.mem_cons_of_mem _ fl_Md_63) rfl rfl d_Md_takeStretch_273 ?_
  refine gd_iload X d_Md_takeStretch_276 4 rfl ?_
  refine gd_aload_n X d_Md_takeStretch_278 0 rfl ?_
  refine gd_iload X d_Md_takeStretch_279 4 rfl ?_
  obtain ⟨r_1, hc_2, h⟩ := bd1_e h
  refine gd_fI X (gd_V X (As := [.int v4]) (rest := [.int v4, .ref (a_self 17)]) (c_Md_isEndless l D K a_self a_least N s_self v4 r_1 hc_2) 1 (gi_V ml_Md_182 u_Md_isEndless) rfl ⟨rfl, rfl⟩ (by decide +kernel) ⟨by decide, by decide⟩ (ci := 7) rfl rfl rfl rfl rfl rfl (Nat.le_of_ble_eq_true rfl) ⟨Nat.zero_le _, Nat.zero_le _⟩ d_Md_takeStretch_281) ?_
  refine gd_if_eq X (tgt := 292) d_Md_takeStretch_284 (by decide) (fun c_3 => ?_) (fun c_3 => ?_)
  · replace h := it_p c_3 h
    refine gd_iload X d_Md_takeStretch_292 5 rfl ?_
    obtain ⟨hi_4, h⟩ := ck_e h
    obtain ⟨s_self_5, es_self_5, h⟩ := nm_e' h
    refine gd_iast X (w' := [wd_Md K a_self (a_least 0) s_self_5]) 0 17 0 rfl rfl rfl hi_4 d_Md_takeStretch_294 (by rw [es_self_5]; rfl) ?_
    obtain ⟨v4_6, ev4_6, h⟩ := nm_e' h
    refine gd_iinc X (v := v4_6) (lv' := [(4, .int v4_6), (0, .ref (a_self 0)), (1, .int v1), (2, .int v2), (3, .int v3), (5, .int v5)]) d_Md_takeStretch_295 (k := 4) rfl (by rw [ev4_6]; rfl) (by decide) rfl ?_
    refine gd_goto X (tgt := 181) d_Md_takeStretch_298 (by decide) ?_
    refine gd_loc (lv' := [(0, .ref (a_self 0)), (1, .int v1), (2, .int v2), (3, .int v3), (4, .int v4_6)]) [1, 2, 3, 4, 0] rfl ?_
    exact hkb s_self_5 v4_6 h
  · replace h := it_n c_3 h
    refine gd_bipush X (v := (-3)) d_Md_takeStretch_287 (by decide) ?_
    refine gd_goto X (tgt := 294) d_Md_takeStretch_289 (by decide) ?_
    obtain ⟨hi_7, h⟩ := ck_e h
    obtain ⟨s_self_8, es_self_8, h⟩ := nm_e' h
    refine gd_iast X (w' := [wd_Md K a_self (a_least 0) s_self_8]) 0 17 0 rfl rfl rfl hi_7 d_Md_takeStretch_294 (by rw [es_self_8]; rfl) ?_
    obtain ⟨v4_9, ev4_9, h⟩ := nm_e' h
    refine gd_iinc X (v := v4_9) (lv' := [(4, .int v4_9), (0, .ref (a_self 0)), (1, .int v1), (2, .int v2), (3, .int v3), (5, .int v5)]) d_Md_takeStretch_295 (k := 4) rfl (by rw [ev4_9]; rfl) (by decide) rfl ?_
    refine gd_goto X (tgt := 181) d_Md_takeStretch_298 (by decide) ?_
    refine gd_loc (lv' := [(0, .ref (a_self 0)), (1, .int v1), (2, .int v2), (3, .int v3), (4, .int v4_9)]) [1, 2, 3, 4, 0] rfl ?_
    exact hkb s_self_8 v4_9 h
def l_Md_takeStretch_202 (N : Nat) (s_self : Nat → Nat → Int32) (v1 v2 v3 v4 : Int32) (kx272 : Int32 → Option ((Nat → Nat → Int32))) : Nat → Int32 → Int32 → Option ((Nat → Nat → Int32))
  | 0, _, _ => none
  | n + 1, v5, v6 => f_Md_takeStretch_202 N (l_Md_takeStretch_202 N s_self v1 v2 v3 v4 kx272 n) kx272 s_self v1 v2 v3 v4 v5 v6
set_option maxHeartbeats 4000000 in
set_option maxRecDepth 100000 in
theorem tl_Md_takeStretch_202 {p : Program} {l : Launch} {e : Env} {s : State} {m : MethodId} {args : Array Value} {below : List Frame} {meth : Method} {c : Code} {A : Nat → Prop} {D : va_G} {K : Nat → ClassId} (a_self a_least : Nat → Nat) (X : gx p s m args c b_Md_takeStretch 7 R_Md w_Md_takeStretch D classes (tyK K) A) (hr : meth.sig.returnType = none) (hlk : meth.locks = false) (N : Nat) (f_self : Nat → Nat → Int32) (s_self : Nat → Nat → Int32) (v1 v2 v3 v4 : Int32) (kx272 : Int32 → Option ((Nat → Nat → Int32))) (hkx272 : ∀ (v5 : Int32), kx272 v5 = some f_self → Gd p l e rm_Md_takeStretch s m args below meth c 0 0 (MQ below (sq D classes (tyK K) none [wd_Md K a_self (a_least 0) f_self] A) args s 0 0 A) D classes A 7 272 [wd_Md K a_self (a_least 0) s_self] [(0, .ref (a_self 0)), (1, .int v1), (2, .int v2), (3, .int v3), (4, .int v4), (5, .int v5)] []) : ∀ (n : Nat) (v5 v6 : Int32), l_Md_takeStretch_202 N s_self v1 v2 v3 v4 kx272 n v5 v6 = some f_self → Gd p l e rm_Md_takeStretch s m args below meth c 0 0 (MQ below (sq D classes (tyK K) none [wd_Md K a_self (a_least 0) f_self] A) args s 0 0 A) D classes A 7 202 [wd_Md K a_self (a_least 0) s_self] [(0, .ref (a_self 0)), (1, .int v1), (2, .int v2), (3, .int v3), (4, .int v4), (5, .int v5), (6, .int v6)] [] := by
  intro n
  induction n with
  | zero => intro v5 v6 h; have h : (none : Option ((Nat → Nat → Int32))) = some _ := h; cases h
  | succ n ih =>
    intro v5 v6 h
    exact t_Md_takeStretch_202 a_self a_least X hr hlk N f_self s_self v1 v2 v3 v4 v5 v6 (l_Md_takeStretch_202 N s_self v1 v2 v3 v4 kx272 n) ih kx272 hkx272 h
def f_Md_takeStretch_181 (N : Nat) (kb : (Nat → Nat → Int32) → Int32 → Option ((Nat → Nat → Int32))) (kx301 : (Nat → Nat → Int32) → Option ((Nat → Nat → Int32))) (s_self : Nat → Nat → Int32) (v1 v2 v3 v4 : Int32) : Option ((Nat → Nat → Int32)) :=
  if (s_self 0 1) ≤ v4 then
    kx301 s_self
  else
    ck v4 6 <|
    nm (s_self 16 (Int32.toNatClampNeg v4)) fun v5_3 =>
    l_Md_takeStretch_202 N s_self v1 v2 v3 v4 (fun v5 => f_Md_takeStretch_272 N kb kx301 s_self v1 v2 v3 v4 v5) N v5_3 0
set_option maxHeartbeats 4000000 in
set_option maxRecDepth 100000 in
theorem t_Md_takeStretch_181 {p : Program} {l : Launch} {e : Env} {s : State} {m : MethodId} {args : Array Value} {below : List Frame} {meth : Method} {c : Code} {A : Nat → Prop} {D : va_G} {K : Nat → ClassId} (a_self a_least : Nat → Nat) (X : gx p s m args c b_Md_takeStretch 7 R_Md w_Md_takeStretch D classes (tyK K) A) (hr : meth.sig.returnType = none) (hlk : meth.locks = false) (N : Nat) (f_self : Nat → Nat → Int32) (s_self : Nat → Nat → Int32) (v1 v2 v3 v4 : Int32) (kb : (Nat → Nat → Int32) → Int32 → Option ((Nat → Nat → Int32))) (hkb : ∀ (s_self : Nat → Nat → Int32) (v4 : Int32), kb s_self v4 = some f_self → Gd p l e rm_Md_takeStretch s m args below meth c 0 0 (MQ below (sq D classes (tyK K) none [wd_Md K a_self (a_least 0) f_self] A) args s 0 0 A) D classes A 7 181 [wd_Md K a_self (a_least 0) s_self] [(0, .ref (a_self 0)), (1, .int v1), (2, .int v2), (3, .int v3), (4, .int v4)] []) (kx301 : (Nat → Nat → Int32) → Option ((Nat → Nat → Int32))) (hkx301 : ∀ (s_self : Nat → Nat → Int32), kx301 s_self = some f_self → Gd p l e rm_Md_takeStretch s m args below meth c 0 0 (MQ below (sq D classes (tyK K) none [wd_Md K a_self (a_least 0) f_self] A) args s 0 0 A) D classes A 7 301 [wd_Md K a_self (a_least 0) s_self] [(0, .ref (a_self 0)), (1, .int v1), (2, .int v2), (3, .int v3)] []) (h : f_Md_takeStretch_181 N kb kx301 s_self v1 v2 v3 v4 = some f_self) : Gd p l e rm_Md_takeStretch s m args below meth c 0 0 (MQ below (sq D classes (tyK K) none [wd_Md K a_self (a_least 0) f_self] A) args s 0 0 A) D classes A 7 181 [wd_Md K a_self (a_least 0) s_self] [(0, .ref (a_self 0)), (1, .int v1), (2, .int v2), (3, .int v3), (4, .int v4)] [] := by
  unfold f_Md_takeStretch_181 at h
  refine gd_iload X d_Md_takeStretch_181 4 rfl ?_
  refine gd_aload_n X d_Md_takeStretch_183 0 rfl ?_
  refine gd_get X (ci := 7) (C := R_Md) (T := F_Md) (N := 36) (v := .int (s_self 0 1)) 0 0 rfl rfl rfl (in_Md _) 1 (by decide) (List.mem_cons_of_mem _ fl_Md_89) rfl rfl d_Md_takeStretch_184 ?_
  refine gd_icmp_ge X (tgt := 301) d_Md_takeStretch_187 (by decide) (fun c_1 => ?_) (fun c_1 => ?_)
  · replace h := it_p c_1 h
    refine gd_loc (lv' := [(0, .ref (a_self 0)), (1, .int v1), (2, .int v2), (3, .int v3)]) [0, 1, 2, 3] rfl ?_
    exact hkx301 s_self h
  · replace h := it_n c_1 h
    refine gd_aload_n X d_Md_takeStretch_190 0 rfl ?_
    refine gd_get X (ci := 7) (C := R_Md) (T := F_Md) (N := 36) (v := .ref (a_self 16)) 0 0 rfl rfl rfl (in_Md _) 27 (by decide) (List.mem_cons_of_mem _ fl_Md_60) rfl rfl d_Md_takeStretch_191 ?_
    refine gd_iload X d_Md_takeStretch_194 4 rfl ?_
    obtain ⟨hi_2, h⟩ := ck_e h
    refine gd_iald X 0 16 0 rfl rfl rfl hi_2 d_Md_takeStretch_196 ?_
    obtain ⟨v5_3, ev5_3, h⟩ := nm_e' h
    refine gd_topi ev5_3 ?_
    refine gd_istore X (lv' := [(5, .int v5_3), (0, .ref (a_self 0)), (1, .int v1), (2, .int v2), (3, .int v3), (4, .int v4)]) d_Md_takeStretch_197 (by decide) rfl ?_
    refine gd_iconst X (v := 0) d_Md_takeStretch_199 (by decide) ?_
    refine gd_istore X (lv' := [(6, .int 0), (5, .int v5_3), (0, .ref (a_self 0)), (1, .int v1), (2, .int v2), (3, .int v3), (4, .int v4)]) d_Md_takeStretch_200 (by decide) rfl ?_
    refine gd_loc (lv' := [(0, .ref (a_self 0)), (1, .int v1), (2, .int v2), (3, .int v3), (4, .int v4), (5, .int v5_3), (6, .int 0)]) [2, 3, 4, 5, 6, 1, 0] rfl ?_
    exact tl_Md_takeStretch_202 a_self a_least X hr hlk N f_self s_self v1 v2 v3 v4 (fun v5 => f_Md_takeStretch_272 N kb kx301 s_self v1 v2 v3 v4 v5) (fun v5 h => t_Md_takeStretch_272 a_self a_least X hr hlk N f_self s_self v1 v2 v3 v4 v5 kb hkb kx301 hkx301 h) N v5_3 0 h
def f_Md_takeStretch_301 (N : Nat) (kb : (Nat → Nat → Int32) → Int32 → Option ((Nat → Nat → Int32))) (kx307 : (Nat → Nat → Int32) → Option ((Nat → Nat → Int32))) (s_self : Nat → Nat → Int32) (v1 v2 v3 : Int32) : Option ((Nat → Nat → Int32)) :=
  nm (v3 + 1) fun v3_1 =>
  kb s_self v3_1
set_option maxHeartbeats 4000000 in
set_option maxRecDepth 100000 in
theorem t_Md_takeStretch_301 {p : Program} {l : Launch} {e : Env} {s : State} {m : MethodId} {args : Array Value} {below : List Frame} {meth : Method} {c : Code} {A : Nat → Prop} {D : va_G} {K : Nat → ClassId} (a_self a_least : Nat → Nat) (X : gx p s m args c b_Md_takeStretch 7 R_Md w_Md_takeStretch D classes (tyK K) A) (hr : meth.sig.returnType = none) (hlk : meth.locks = false) (N : Nat) (f_self : Nat → Nat → Int32) (s_self : Nat → Nat → Int32) (v1 v2 v3 : Int32) (kb : (Nat → Nat → Int32) → Int32 → Option ((Nat → Nat → Int32))) (hkb : ∀ (s_self : Nat → Nat → Int32) (v3 : Int32), kb s_self v3 = some f_self → Gd p l e rm_Md_takeStretch s m args below meth c 0 0 (MQ below (sq D classes (tyK K) none [wd_Md K a_self (a_least 0) f_self] A) args s 0 0 A) D classes A 7 170 [wd_Md K a_self (a_least 0) s_self] [(0, .ref (a_self 0)), (1, .int v1), (2, .int v2), (3, .int v3)] []) (kx307 : (Nat → Nat → Int32) → Option ((Nat → Nat → Int32))) (hkx307 : ∀ (s_self : Nat → Nat → Int32), kx307 s_self = some f_self → Gd p l e rm_Md_takeStretch s m args below meth c 0 0 (MQ below (sq D classes (tyK K) none [wd_Md K a_self (a_least 0) f_self] A) args s 0 0 A) D classes A 7 307 [wd_Md K a_self (a_least 0) s_self] [(0, .ref (a_self 0)), (1, .int v1), (2, .int v2)] []) (h : f_Md_takeStretch_301 N kb kx307 s_self v1 v2 v3 = some f_self) : Gd p l e rm_Md_takeStretch s m args below meth c 0 0 (MQ below (sq D classes (tyK K) none [wd_Md K a_self (a_least 0) f_self] A) args s 0 0 A) D classes A 7 301 [wd_Md K a_self (a_least 0) s_self] [(0, .ref (a_self 0)), (1, .int v1), (2, .int v2), (3, .int v3)] [] := by
  unfold f_Md_takeStretch_301 at h
  obtain ⟨v3_1, ev3_1, h⟩ := nm_e' h
  refine gd_iinc X (v := v3_1) (lv' := [(3, .int v3_1), (0, .ref (a_self 0)), (1, .int v1), (2, .int v2)]) d_Md_takeStretch_301 (k := 3) rfl (by rw [ev3_1]; rfl) (by decide) rfl ?_
  refine gd_goto X (tgt := 170) d_Md_takeStretch_304 (by decide) ?_
  refine gd_loc (lv' := [(0, .ref (a_self 0)), (1, .int v1), (2, .int v2), (3, .int v3_1)]) [1, 2, 3, 0] rfl ?_
  exact hkb s_self v3_1 h
def l_Md_takeStretch_181 (N : Nat) (v1 v2 v3 : Int32) (kx301 : (Nat → Nat → Int32) → Option ((Nat → Nat → Int32))) : Nat → (Nat → Nat → Int32) → Int32 → Option ((Nat → Nat → Int32))
  | 0, _, _ => none
  | n + 1, s_self, v4 => f_Md_takeStretch_181 N (l_Md_takeStretch_181 N v1 v2 v3 kx301 n) kx301 s_self v1 v2 v3 v4
set_option maxHeartbeats 4000000 in
set_option maxRecDepth 100000 in
theorem tl_Md_takeStretch_181 {p : Program} {l : Launch} {e : Env} {s : State} {m : MethodId} {args : Array Value} {below : List Frame} {meth : Method} {c : Code} {A : Nat → Prop} {D : va_G} {K : Nat → ClassId} (a_self a_least : Nat → Nat) (X : gx p s m args c b_Md_takeStretch 7 R_Md w_Md_takeStretch D classes (tyK K) A) (hr : meth.sig.returnType = none) (hlk : meth.locks = false) (N : Nat) (f_self : Nat → Nat → Int32) (v1 v2 v3 : Int32) (kx301 : (Nat → Nat → Int32) → Option ((Nat → Nat → Int32))) (hkx301 : ∀ (s_self : Nat → Nat → Int32), kx301 s_self = some f_self → Gd p l e rm_Md_takeStretch s m args below meth c 0 0 (MQ below (sq D classes (tyK K) none [wd_Md K a_self (a_least 0) f_self] A) args s 0 0 A) D classes A 7 301 [wd_Md K a_self (a_least 0) s_self] [(0, .ref (a_self 0)), (1, .int v1), (2, .int v2), (3, .int v3)] []) : ∀ (n : Nat) (s_self : Nat → Nat → Int32) (v4 : Int32), l_Md_takeStretch_181 N v1 v2 v3 kx301 n s_self v4 = some f_self → Gd p l e rm_Md_takeStretch s m args below meth c 0 0 (MQ below (sq D classes (tyK K) none [wd_Md K a_self (a_least 0) f_self] A) args s 0 0 A) D classes A 7 181 [wd_Md K a_self (a_least 0) s_self] [(0, .ref (a_self 0)), (1, .int v1), (2, .int v2), (3, .int v3), (4, .int v4)] [] := by
  intro n
  induction n with
  | zero => intro s_self v4 h; have h : (none : Option ((Nat → Nat → Int32))) = some _ := h; cases h
  | succ n ih =>
    intro s_self v4 h
    exact t_Md_takeStretch_181 a_self a_least X hr hlk N f_self s_self v1 v2 v3 v4 (l_Md_takeStretch_181 N v1 v2 v3 kx301 n) ih kx301 hkx301 h
def f_Md_takeStretch_170 (N : Nat) (kb : (Nat → Nat → Int32) → Int32 → Option ((Nat → Nat → Int32))) (kx307 : (Nat → Nat → Int32) → Option ((Nat → Nat → Int32))) (s_self : Nat → Nat → Int32) (v1 v2 v3 : Int32) : Option ((Nat → Nat → Int32)) :=
  if (s_self 0 1) < v3 then
    kx307 s_self
  else
    l_Md_takeStretch_181 N v1 v2 v3 (fun s_self => f_Md_takeStretch_301 N kb kx307 s_self v1 v2 v3) N s_self 0
set_option maxHeartbeats 4000000 in
set_option maxRecDepth 100000 in
theorem t_Md_takeStretch_170 {p : Program} {l : Launch} {e : Env} {s : State} {m : MethodId} {args : Array Value} {below : List Frame} {meth : Method} {c : Code} {A : Nat → Prop} {D : va_G} {K : Nat → ClassId} (a_self a_least : Nat → Nat) (X : gx p s m args c b_Md_takeStretch 7 R_Md w_Md_takeStretch D classes (tyK K) A) (hr : meth.sig.returnType = none) (hlk : meth.locks = false) (N : Nat) (f_self : Nat → Nat → Int32) (s_self : Nat → Nat → Int32) (v1 v2 v3 : Int32) (kb : (Nat → Nat → Int32) → Int32 → Option ((Nat → Nat → Int32))) (hkb : ∀ (s_self : Nat → Nat → Int32) (v3 : Int32), kb s_self v3 = some f_self → Gd p l e rm_Md_takeStretch s m args below meth c 0 0 (MQ below (sq D classes (tyK K) none [wd_Md K a_self (a_least 0) f_self] A) args s 0 0 A) D classes A 7 170 [wd_Md K a_self (a_least 0) s_self] [(0, .ref (a_self 0)), (1, .int v1), (2, .int v2), (3, .int v3)] []) (kx307 : (Nat → Nat → Int32) → Option ((Nat → Nat → Int32))) (hkx307 : ∀ (s_self : Nat → Nat → Int32), kx307 s_self = some f_self → Gd p l e rm_Md_takeStretch s m args below meth c 0 0 (MQ below (sq D classes (tyK K) none [wd_Md K a_self (a_least 0) f_self] A) args s 0 0 A) D classes A 7 307 [wd_Md K a_self (a_least 0) s_self] [(0, .ref (a_self 0)), (1, .int v1), (2, .int v2)] []) (h : f_Md_takeStretch_170 N kb kx307 s_self v1 v2 v3 = some f_self) : Gd p l e rm_Md_takeStretch s m args below meth c 0 0 (MQ below (sq D classes (tyK K) none [wd_Md K a_self (a_least 0) f_self] A) args s 0 0 A) D classes A 7 170 [wd_Md K a_self (a_least 0) s_self] [(0, .ref (a_self 0)), (1, .int v1), (2, .int v2), (3, .int v3)] [] := by
  unfold f_Md_takeStretch_170 at h
  refine gd_iload_n X d_Md_takeStretch_170 3 rfl ?_
  refine gd_aload_n X d_Md_takeStretch_171 0 rfl ?_
  refine gd_get X (ci := 7) (C := R_Md) (T := F_Md) (N := 36) (v := .int (s_self 0 1)) 0 0 rfl rfl rfl (in_Md _) 1 (by decide) (List.mem_cons_of_mem _ fl_Md_89) rfl rfl d_Md_takeStretch_172 ?_
  refine gd_icmp_gt X (tgt := 307) d_Md_takeStretch_175 (by decide) (fun c_1 => ?_) (fun c_1 => ?_)
  · replace h := it_p c_1 h
    refine gd_loc (lv' := [(0, .ref (a_self 0)), (1, .int v1), (2, .int v2)]) [0, 1, 2] rfl ?_
    exact hkx307 s_self h
  · replace h := it_n c_1 h
    refine gd_iconst X (v := 0) d_Md_takeStretch_178 (by decide) ?_
    refine gd_istore X (lv' := [(4, .int 0), (0, .ref (a_self 0)), (1, .int v1), (2, .int v2), (3, .int v3)]) d_Md_takeStretch_179 (by decide) rfl ?_
    refine gd_loc (lv' := [(0, .ref (a_self 0)), (1, .int v1), (2, .int v2), (3, .int v3), (4, .int 0)]) [1, 2, 3, 4, 0] rfl ?_
    exact tl_Md_takeStretch_181 a_self a_least X hr hlk N f_self v1 v2 v3 (fun s_self => f_Md_takeStretch_301 N kb kx307 s_self v1 v2 v3) (fun s_self h => t_Md_takeStretch_301 a_self a_least X hr hlk N f_self s_self v1 v2 v3 kb hkb kx307 hkx307 h) N s_self 0 h
def f_Md_takeStretch_309 (N : Nat) (kb : (Nat → Nat → Int32) → Int32 → Option ((Nat → Nat → Int32))) (kx340 : (Nat → Nat → Int32) → Option ((Nat → Nat → Int32))) (s_self : Nat → Nat → Int32) (v1 v2 v3 : Int32) : Option ((Nat → Nat → Int32)) :=
  if (s_self 0 1) ≤ v3 then
    kx340 s_self
  else
    bd1 (m_Md_cellOf v3 v1 v2) fun r_2 =>
    ck v3 6 <|
    ck r_2 936 <| nm (st2 s_self 7 (Int32.toNatClampNeg r_2) (s_self 17 (Int32.toNatClampNeg v3))) fun s_self_6 =>
    nm (v3 + 1) fun v3_7 =>
    kb s_self_6 v3_7
set_option maxHeartbeats 4000000 in
set_option maxRecDepth 100000 in
theorem t_Md_takeStretch_309 {p : Program} {l : Launch} {e : Env} {s : State} {m : MethodId} {args : Array Value} {below : List Frame} {meth : Method} {c : Code} {A : Nat → Prop} {D : va_G} {K : Nat → ClassId} (a_self a_least : Nat → Nat) (X : gx p s m args c b_Md_takeStretch 7 R_Md w_Md_takeStretch D classes (tyK K) A) (hr : meth.sig.returnType = none) (hlk : meth.locks = false) (N : Nat) (f_self : Nat → Nat → Int32) (s_self : Nat → Nat → Int32) (v1 v2 v3 : Int32) (kb : (Nat → Nat → Int32) → Int32 → Option ((Nat → Nat → Int32))) (hkb : ∀ (s_self : Nat → Nat → Int32) (v3 : Int32), kb s_self v3 = some f_self → Gd p l e rm_Md_takeStretch s m args below meth c 0 0 (MQ below (sq D classes (tyK K) none [wd_Md K a_self (a_least 0) f_self] A) args s 0 0 A) D classes A 7 309 [wd_Md K a_self (a_least 0) s_self] [(0, .ref (a_self 0)), (1, .int v1), (2, .int v2), (3, .int v3)] []) (kx340 : (Nat → Nat → Int32) → Option ((Nat → Nat → Int32))) (hkx340 : ∀ (s_self : Nat → Nat → Int32), kx340 s_self = some f_self → Gd p l e rm_Md_takeStretch s m args below meth c 0 0 (MQ below (sq D classes (tyK K) none [wd_Md K a_self (a_least 0) f_self] A) args s 0 0 A) D classes A 7 340 [wd_Md K a_self (a_least 0) s_self] [(0, .ref (a_self 0)), (1, .int v1), (2, .int v2)] []) (h : f_Md_takeStretch_309 N kb kx340 s_self v1 v2 v3 = some f_self) : Gd p l e rm_Md_takeStretch s m args below meth c 0 0 (MQ below (sq D classes (tyK K) none [wd_Md K a_self (a_least 0) f_self] A) args s 0 0 A) D classes A 7 309 [wd_Md K a_self (a_least 0) s_self] [(0, .ref (a_self 0)), (1, .int v1), (2, .int v2), (3, .int v3)] [] := by
  unfold f_Md_takeStretch_309 at h
  refine gd_iload_n X d_Md_takeStretch_309 3 rfl ?_
  refine gd_aload_n X d_Md_takeStretch_310 0 rfl ?_
  refine gd_get X (ci := 7) (C := R_Md) (T := F_Md) (N := 36) (v := .int (s_self 0 1)) 0 0 rfl rfl rfl (in_Md _) 1 (by decide) (List.mem_cons_of_mem _ fl_Md_89) rfl rfl d_Md_takeStretch_311 ?_
  refine gd_icmp_ge X (tgt := 340) d_Md_takeStretch_314 (by decide) (fun c_1 => ?_) (fun c_1 => ?_)
  · replace h := it_p c_1 h
    refine gd_loc (lv' := [(0, .ref (a_self 0)), (1, .int v1), (2, .int v2)]) [0, 1, 2] rfl ?_
    exact hkx340 s_self h
  · replace h := it_n c_1 h
    refine gd_aload_n X d_Md_takeStretch_317 0 rfl ?_
    refine gd_get X (ci := 7) (C := R_Md) (T := F_Md) (N := 36) (v := .ref (a_self 7)) 0 0 rfl rfl rfl (in_Md _) 15 (by decide) (List.mem_cons_of_mem _ fl_Md_32) rfl rfl d_Md_takeStretch_318 ?_
    refine gd_iload_n X d_Md_takeStretch_321 3 rfl ?_
    refine gd_iload_n X d_Md_takeStretch_322 1 rfl ?_
    refine gd_iload_n X d_Md_takeStretch_323 2 rfl ?_
    obtain ⟨r_2, hc_3, h⟩ := bd1_e h
    refine gd_pI X (gd_Sc X (As := [.int v3, .int v1, .int v2]) (rest := [.ref (a_self 7)]) (c_Md_cellOf l D K v3 v1 v2 r_2 hc_3) 3 (gi_S ml_Md_138 u_Md_cellOf) rfl ⟨rfl, rfl⟩ (by decide +kernel) ⟨by decide, by decide⟩ rfl rfl (Nat.le_of_ble_eq_true rfl) ⟨Nat.zero_le _, Nat.zero_le _⟩ d_Md_takeStretch_324) [] rfl rfl ?_
    refine gd_aload_n X d_Md_takeStretch_327 0 rfl ?_
    refine gd_get X (ci := 7) (C := R_Md) (T := F_Md) (N := 36) (v := .ref (a_self 17)) 0 0 rfl rfl rfl (in_Md _) 28 (by decide) (List.mem_cons_of_mem _ fl_Md_63) rfl rfl d_Md_takeStretch_328 ?_
    refine gd_iload_n X d_Md_takeStretch_331 3 rfl ?_
    obtain ⟨hi_4, h⟩ := ck_e h
    refine gd_iald X 0 17 0 rfl rfl rfl hi_4 d_Md_takeStretch_332 ?_
    obtain ⟨hi_5, h⟩ := ck_e h
    obtain ⟨s_self_6, es_self_6, h⟩ := nm_e' h
    refine gd_iast X (w' := [wd_Md K a_self (a_least 0) s_self_6]) 0 7 0 rfl rfl rfl hi_5 d_Md_takeStretch_333 (by rw [es_self_6]; rfl) ?_
    obtain ⟨v3_7, ev3_7, h⟩ := nm_e' h
    refine gd_iinc X (v := v3_7) (lv' := [(3, .int v3_7), (0, .ref (a_self 0)), (1, .int v1), (2, .int v2)]) d_Md_takeStretch_334 (k := 3) rfl (by rw [ev3_7]; rfl) (by decide) rfl ?_
    refine gd_goto X (tgt := 309) d_Md_takeStretch_337 (by decide) ?_
    refine gd_loc (lv' := [(0, .ref (a_self 0)), (1, .int v1), (2, .int v2), (3, .int v3_7)]) [1, 2, 3, 0] rfl ?_
    exact hkb s_self_6 v3_7 h
def f_Md_takeStretch_363 (N : Nat) (kb : (Nat → Nat → Int32) → Int32 → Int32 → Option ((Nat → Nat → Int32))) (kx469 : (Nat → Nat → Int32) → Int32 → Option ((Nat → Nat → Int32))) (s_self : Nat → Nat → Int32) (v1 v2 v3 v4 v5 : Int32) : Option ((Nat → Nat → Int32)) :=
  if 2 ≤ v5 then
    kx469 s_self v3
  else
    bd1 (m_Md_isPlain s_self v4) fun r_2 =>
    if r_2 = 0 then
      kx469 s_self v3
    else
      ck (8 * v4) 248 <|
      ck ((-1) - (s_self 4 (Int32.toNatClampNeg (8 * v4)))) 20 <|
      bd1 (m_Md_cellOf (s_self 1 (Int32.toNatClampNeg ((-1) - (s_self 4 (Int32.toNatClampNeg (8 * v4)))))) v1 v2) fun r_7 =>
      nm ((2 * r_7) + v5) fun v6_9 =>
      ck v6_9 1872 <|
      if (s_self 8 (Int32.toNatClampNeg v6_9)) ≤ 0 then
        nm (v5 + 1) fun v5_12 =>
        kb s_self v3 v5_12
      else
        nm (st2 s_self 0 19 0) fun s_self_13 =>
        bd1 (m_Md_add s_self_13 v4) fun s_self_14 =>
        bd1 (m_Md_addTree N s_self_14 v6_9) fun s_self_16 =>
        ck v4 31 <|
        bd1 (m_Md_cellOf (s_self_16 2 (Int32.toNatClampNeg v4)) v1 v2) fun r_19 =>
        bd2 (m_Md_offer N s_self_16 r_19) fun r_21 s_self_22 =>
        if r_21 = 0 then
          if v3 = 0 then
            nm (v5 + 1) fun v5_27 =>
            kb s_self_22 0 v5_27
          else
            nm (v5 + 1) fun v5_28 =>
            kb s_self_22 1 v5_28
        else
          nm (v5 + 1) fun v5_25 =>
          kb s_self_22 1 v5_25
set_option maxHeartbeats 4000000 in
set_option maxRecDepth 100000 in
theorem t_Md_takeStretch_363 {p : Program} {l : Launch} {e : Env} {s : State} {m : MethodId} {args : Array Value} {below : List Frame} {meth : Method} {c : Code} {A : Nat → Prop} {D : va_G} {K : Nat → ClassId} (a_self a_least : Nat → Nat) (X : gx p s m args c b_Md_takeStretch 7 R_Md w_Md_takeStretch D classes (tyK K) A) (hr : meth.sig.returnType = none) (hlk : meth.locks = false) (N : Nat) (f_self : Nat → Nat → Int32) (s_self : Nat → Nat → Int32) (v1 v2 v3 v4 v5 : Int32) (kb : (Nat → Nat → Int32) → Int32 → Int32 → Option ((Nat → Nat → Int32))) (hkb : ∀ (s_self : Nat → Nat → Int32) (v3 v5 : Int32), kb s_self v3 v5 = some f_self → Gd p l e rm_Md_takeStretch s m args below meth c 0 0 (MQ below (sq D classes (tyK K) none [wd_Md K a_self (a_least 0) f_self] A) args s 0 0 A) D classes A 7 363 [wd_Md K a_self (a_least 0) s_self] [(0, .ref (a_self 0)), (1, .int v1), (2, .int v2), (3, .int v3), (4, .int v4), (5, .int v5)] []) (kx469 : (Nat → Nat → Int32) → Int32 → Option ((Nat → Nat → Int32))) (hkx469 : ∀ (s_self : Nat → Nat → Int32) (v3 : Int32), kx469 s_self v3 = some f_self → Gd p l e rm_Md_takeStretch s m args below meth c 0 0 (MQ below (sq D classes (tyK K) none [wd_Md K a_self (a_least 0) f_self] A) args s 0 0 A) D classes A 7 469 [wd_Md K a_self (a_least 0) s_self] [(0, .ref (a_self 0)), (1, .int v1), (2, .int v2), (3, .int v3), (4, .int v4)] []) (h : f_Md_takeStretch_363 N kb kx469 s_self v1 v2 v3 v4 v5 = some f_self) : Gd p l e rm_Md_takeStretch s m args below meth c 0 0 (MQ below (sq D classes (tyK K) none [wd_Md K a_self (a_least 0) f_self] A) args s 0 0 A) D classes A 7 363 [wd_Md K a_self (a_least 0) s_self] [(0, .ref (a_self 0)), (1, .int v1), (2, .int v2), (3, .int v3), (4, .int v4), (5, .int v5)] [] := by
  unfold f_Md_takeStretch_363 at h
  refine gd_iload X d_Md_takeStretch_363 5 rfl ?_
  refine gd_iconst X (v := 2) d_Md_takeStretch_365 (by decide) ?_
  refine gd_icmp_ge X (tgt := 469) d_Md_takeStretch_366 (by decide) (fun c_1 => ?_) (fun c_1 => ?_)
  · replace h := it_p c_1 h
    refine gd_loc (lv' := [(0, .ref (a_self 0)), (1, .int v1), (2, .int v2), (3, .int v3), (4, .int v4)]) [0, 1, 2, 3, 4] rfl ?_
    exact hkx469 s_self v3 h
  · replace h := it_n c_1 h
    refine gd_aload_n X d_Md_takeStretch_369 0 rfl ?_
    refine gd_iload X d_Md_takeStretch_370 4 rfl ?_
    obtain ⟨r_2, hc_3, h⟩ := bd1_e h
    refine gd_fI X (gd_V X (As := [.int v4]) (rest := []) (c_Md_isPlain l D K a_self a_least s_self v4 r_2 hc_3) 1 (gi_V ml_Md_172 u_Md_isPlain) rfl ⟨rfl, rfl⟩ (by decide +kernel) ⟨by decide, by decide⟩ (ci := 7) rfl rfl rfl rfl rfl rfl (Nat.le_of_ble_eq_true rfl) ⟨Nat.zero_le _, Nat.zero_le _⟩ d_Md_takeStretch_372) ?_
    refine gd_if_eq X (tgt := 469) d_Md_takeStretch_375 (by decide) (fun c_4 => ?_) (fun c_4 => ?_)
    · replace h := it_p c_4 h
      refine gd_loc (lv' := [(0, .ref (a_self 0)), (1, .int v1), (2, .int v2), (3, .int v3), (4, .int v4)]) [0, 1, 2, 3, 4] rfl ?_
      exact hkx469 s_self v3 h
    · replace h := it_n c_4 h
      refine gd_iconst X (v := 2) d_Md_takeStretch_378 (by decide) ?_
      refine gd_aload_n X d_Md_takeStretch_379 0 rfl ?_
      refine gd_get X (ci := 7) (C := R_Md) (T := F_Md) (N := 36) (v := .ref (a_self 1)) 0 0 rfl rfl rfl (in_Md _) 3 (by decide) (List.mem_cons_of_mem _ fl_Md_7) rfl rfl d_Md_takeStretch_380 ?_
      refine gd_iconst X (v := (-1)) d_Md_takeStretch_383 (by decide) ?_
      refine gd_aload_n X d_Md_takeStretch_384 0 rfl ?_
      refine gd_get X (ci := 7) (C := R_Md) (T := F_Md) (N := 36) (v := .ref (a_self 4)) 0 0 rfl rfl rfl (in_Md _) 8 (by decide) (List.mem_cons_of_mem _ fl_Md_19) rfl rfl d_Md_takeStretch_385 ?_
      refine gd_bipush X (v := 8) d_Md_takeStretch_388 (by decide) ?_
      refine gd_iload X d_Md_takeStretch_390 4 rfl ?_
      refine gd_imul X d_Md_takeStretch_392 ?_
      obtain ⟨hi_5, h⟩ := ck_e h
      refine gd_iald X 0 4 0 rfl rfl rfl hi_5 d_Md_takeStretch_393 ?_
      refine gd_isub X d_Md_takeStretch_394 ?_
      obtain ⟨hi_6, h⟩ := ck_e h
      refine gd_iald X 0 1 0 rfl rfl rfl hi_6 d_Md_takeStretch_395 ?_
      refine gd_iload_n X d_Md_takeStretch_396 1 rfl ?_
      refine gd_iload_n X d_Md_takeStretch_397 2 rfl ?_
      obtain ⟨r_7, hc_8, h⟩ := bd1_e h
      refine gd_pI X (gd_Sc X (As := [.int (s_self 1 (Int32.toNatClampNeg ((-1) - (s_self 4 (Int32.toNatClampNeg (8 * v4)))))), .int v1, .int v2]) (rest := [.int 2]) (c_Md_cellOf l D K (s_self 1 (Int32.toNatClampNeg ((-1) - (s_self 4 (Int32.toNatClampNeg (8 * v4)))))) v1 v2 r_7 hc_8) 3 (gi_S ml_Md_138 u_Md_cellOf) rfl ⟨rfl, rfl⟩ (by decide +kernel) ⟨by decide, by decide⟩ rfl rfl (Nat.le_of_ble_eq_true rfl) ⟨Nat.zero_le _, Nat.zero_le _⟩ d_Md_takeStretch_398) [] rfl rfl ?_
      refine gd_imul X d_Md_takeStretch_401 ?_
      refine gd_iload X d_Md_takeStretch_402 5 rfl ?_
      refine gd_iadd X d_Md_takeStretch_404 ?_
      obtain ⟨v6_9, ev6_9, h⟩ := nm_e' h
      refine gd_topi ev6_9 ?_
      refine gd_istore X (lv' := [(6, .int v6_9), (0, .ref (a_self 0)), (1, .int v1), (2, .int v2), (3, .int v3), (4, .int v4), (5, .int v5)]) d_Md_takeStretch_405 (by decide) rfl ?_
      refine gd_aload_n X d_Md_takeStretch_407 1 rfl ?_
      refine gd_get X (ci := 7) (C := R_Md) (T := F_Md) (N := 36) (v := .ref (a_self 8)) 0 0 rfl rfl rfl (in_Md _) 16 (by decide) (List.mem_cons_of_mem _ fl_Md_35) rfl rfl d_Md_takeStretch_408 ?_
      refine gd_iload X d_Md_takeStretch_411 0 rfl ?_
      obtain ⟨hi_10, h⟩ := ck_e h
      refine gd_iald X 0 8 0 rfl rfl rfl hi_10 d_Md_takeStretch_413 ?_
      refine gd_if_le X (tgt := 463) d_Md_takeStretch_414 (by decide) (fun c_11 => ?_) (fun c_11 => ?_)
      · replace h := it_p c_11 h
        obtain ⟨v5_12, ev5_12, h⟩ := nm_e' h
        refine gd_iinc X (v := v5_12) (lv' := [(5, .int v5_12), (6, .int v6_9), (0, .ref (a_self 0)), (1, .int v1), (2, .int v2), (3, .int v3), (4, .int v4)]) d_Md_takeStretch_463 (k := 6) rfl (by rw [ev5_12]; rfl) (by decide) rfl ?_
        refine gd_goto X (tgt := 363) d_Md_takeStretch_466 (by decide) ?_
        refine gd_loc (lv' := [(0, .ref (a_self 0)), (1, .int v1), (2, .int v2), (3, .int v3), (4, .int v4), (5, .int v5_12)]) [2, 3, 4, 5, 6, 0] rfl ?_
        exact hkb s_self v3 v5_12 h
      · replace h := it_n c_11 h
        refine gd_aload_n X d_Md_takeStretch_417 1 rfl ?_
        refine gd_iconst X (v := 0) d_Md_takeStretch_418 (by decide) ?_
        obtain ⟨s_self_13, es_self_13, h⟩ := nm_e' h
        refine gd_put X (ci := 7) (C := R_Md) (T := F_Md) (N := 36) (ty := .int) (w' := [wd_Md K a_self (a_least 0) s_self_13]) 0 0 rfl rfl rfl (in_Md _) t_Md t_Md_ok n_Md 19 (by decide) (List.mem_cons_of_mem _ fl_Md_119) rfl rfl (by decide +kernel) rfl rfl (Nat.le_of_ble_eq_true rfl) d_Md_takeStretch_419 (by rw [es_self_13]; rfl) ?_
        refine gd_aload_n X d_Md_takeStretch_422 1 rfl ?_
        refine gd_iload X d_Md_takeStretch_423 5 rfl ?_
        obtain ⟨s_self_14, hc_15, h⟩ := bd1_e h
        refine gd_fv X (w1 := [wd_Md K a_self (a_least 0) s_self_14]) (gd_V X (As := [.int v4]) (rest := []) (c_Md_add l D K a_self a_least s_self_13 v4 s_self_14 hc_15) 1 (gi_V ml_Md_129 u_Md_add) rfl ⟨rfl, rfl⟩ (by decide +kernel) ⟨by decide, by decide⟩ (ci := 7) rfl rfl rfl rfl rfl rfl (Nat.le_of_ble_eq_true rfl) ⟨Nat.zero_le _, Nat.zero_le _⟩ d_Md_takeStretch_425) ?_
        refine gd_aload_n X d_Md_takeStretch_428 1 rfl ?_
        refine gd_iload X d_Md_takeStretch_429 0 rfl ?_
        obtain ⟨s_self_16, hc_17, h⟩ := bd1_e h
        refine gd_fv X (w1 := [wd_Md K a_self (a_least 0) s_self_16]) (gd_V X (As := [.int v6_9]) (rest := []) (c_Md_addTree l D K a_self a_least N s_self_14 v6_9 s_self_16 hc_17) 1 (gi_V ml_Md_155 u_Md_addTree) rfl ⟨rfl, rfl⟩ (by decide +kernel) ⟨by decide, by decide⟩ (ci := 7) rfl rfl rfl rfl rfl rfl (Nat.le_of_ble_eq_true rfl) ⟨Nat.zero_le _, Nat.zero_le _⟩ d_Md_takeStretch_431) ?_
        refine gd_aload_n X d_Md_takeStretch_434 1 rfl ?_
        refine gd_aload_n X d_Md_takeStretch_435 1 rfl ?_
        refine gd_get X (ci := 7) (C := R_Md) (T := F_Md) (N := 36) (v := .ref (a_self 2)) 0 0 rfl rfl rfl (in_Md _) 6 (by decide) (List.mem_cons_of_mem _ fl_Md_13) rfl rfl d_Md_takeStretch_436 ?_
        refine gd_iload X d_Md_takeStretch_439 5 rfl ?_
        obtain ⟨hi_18, h⟩ := ck_e h
        refine gd_iald X 0 2 0 rfl rfl rfl hi_18 d_Md_takeStretch_441 ?_
        refine gd_iload_n X d_Md_takeStretch_442 2 rfl ?_
        refine gd_iload_n X d_Md_takeStretch_443 3 rfl ?_
        obtain ⟨r_19, hc_20, h⟩ := bd1_e h
        refine gd_pI X (gd_Sc X (As := [.int (s_self_16 2 (Int32.toNatClampNeg v4)), .int v1, .int v2]) (rest := [.ref (a_self 0)]) (c_Md_cellOf l D K (s_self_16 2 (Int32.toNatClampNeg v4)) v1 v2 r_19 hc_20) 3 (gi_S ml_Md_138 u_Md_cellOf) rfl ⟨rfl, rfl⟩ (by decide +kernel) ⟨by decide, by decide⟩ rfl rfl (Nat.le_of_ble_eq_true rfl) ⟨Nat.zero_le _, Nat.zero_le _⟩ d_Md_takeStretch_444) [] rfl rfl ?_
        obtain ⟨r_21, s_self_22, hc_23, h⟩ := bd2_e h
        refine gd_fI X (w1 := [wd_Md K a_self (a_least 0) s_self_22]) (gd_V X (As := [.int r_19]) (rest := []) (c_Md_offer l D K a_self a_least N s_self_16 r_19 r_21 s_self_22 hc_23) 1 (gi_V ml_Md_158 u_Md_offer) rfl ⟨rfl, rfl⟩ (by decide +kernel) ⟨by decide, by decide⟩ (ci := 7) rfl rfl rfl rfl rfl rfl (Nat.le_of_ble_eq_true rfl) ⟨Nat.zero_le _, Nat.zero_le _⟩ d_Md_takeStretch_447) ?_
        refine gd_if_ne X (tgt := 457) d_Md_takeStretch_450 (by decide) (fun c_24 => ?_) (fun c_24 => ?_)
        · replace h := it_n c_24 h
          refine gd_iconst X (v := 1) d_Md_takeStretch_457 (by decide) ?_
          refine gd_goto X (tgt := 462) d_Md_takeStretch_458 (by decide) ?_
          refine gd_istore_n X (lv' := [(3, .int 1), (6, .int v6_9), (0, .ref (a_self 0)), (1, .int v1), (2, .int v2), (4, .int v4), (5, .int v5)]) d_Md_takeStretch_462 rfl (by decide) rfl ?_
          obtain ⟨v5_25, ev5_25, h⟩ := nm_e' h
          refine gd_iinc X (v := v5_25) (lv' := [(5, .int v5_25), (3, .int 1), (6, .int v6_9), (0, .ref (a_self 0)), (1, .int v1), (2, .int v2), (4, .int v4)]) d_Md_takeStretch_463 (k := 6) rfl (by rw [ev5_25]; rfl) (by decide) rfl ?_
          refine gd_goto X (tgt := 363) d_Md_takeStretch_466 (by decide) ?_
          refine gd_loc (lv' := [(0, .ref (a_self 0)), (1, .int v1), (2, .int v2), (3, .int 1), (4, .int v4), (5, .int v5_25)]) [3, 4, 5, 1, 6, 0] rfl ?_
          exact hkb s_self_22 1 v5_25 h
        · replace h := it_p c_24 h
          refine gd_iload_n X d_Md_takeStretch_453 4 rfl ?_
          refine gd_if_eq X (tgt := 461) d_Md_takeStretch_454 (by decide) (fun c_26 => ?_) (fun c_26 => ?_)
          · replace h := it_p c_26 h
            refine gd_iconst X (v := 0) d_Md_takeStretch_461 (by decide) ?_
            refine gd_istore_n X (lv' := [(3, .int 0), (6, .int v6_9), (0, .ref (a_self 0)), (1, .int v1), (2, .int v2), (4, .int v4), (5, .int v5)]) d_Md_takeStretch_462 rfl (by decide) rfl ?_
            obtain ⟨v5_27, ev5_27, h⟩ := nm_e' h
            refine gd_iinc X (v := v5_27) (lv' := [(5, .int v5_27), (3, .int 0), (6, .int v6_9), (0, .ref (a_self 0)), (1, .int v1), (2, .int v2), (4, .int v4)]) d_Md_takeStretch_463 (k := 6) rfl (by rw [ev5_27]; rfl) (by decide) rfl ?_
            refine gd_goto X (tgt := 363) d_Md_takeStretch_466 (by decide) ?_
            refine gd_loc (lv' := [(0, .ref (a_self 0)), (1, .int v1), (2, .int v2), (3, .int 0), (4, .int v4), (5, .int v5_27)]) [3, 4, 5, 1, 6, 0] rfl ?_
            exact hkb s_self_22 0 v5_27 h
          · replace h := it_n c_26 h
            refine gd_iconst X (v := 1) d_Md_takeStretch_457 (by decide) ?_
            refine gd_goto X (tgt := 462) d_Md_takeStretch_458 (by decide) ?_
            refine gd_istore_n X (lv' := [(3, .int 1), (6, .int v6_9), (0, .ref (a_self 0)), (1, .int v1), (2, .int v2), (4, .int v4), (5, .int v5)]) d_Md_takeStretch_462 rfl (by decide) rfl ?_
            obtain ⟨v5_28, ev5_28, h⟩ := nm_e' h
            refine gd_iinc X (v := v5_28) (lv' := [(5, .int v5_28), (3, .int 1), (6, .int v6_9), (0, .ref (a_self 0)), (1, .int v1), (2, .int v2), (4, .int v4)]) d_Md_takeStretch_463 (k := 6) rfl (by rw [ev5_28]; rfl) (by decide) rfl ?_
            refine gd_goto X (tgt := 363) d_Md_takeStretch_466 (by decide) ?_
            refine gd_loc (lv' := [(0, .ref (a_self 0)), (1, .int v1), (2, .int v2), (3, .int 1), (4, .int v4), (5, .int v5_28)]) [3, 4, 5, 1, 6, 0] rfl ?_
            exact hkb s_self_22 1 v5_28 h
def f_Md_takeStretch_469 (N : Nat) (kb : (Nat → Nat → Int32) → Int32 → Int32 → Option ((Nat → Nat → Int32))) (kx475 : (Nat → Nat → Int32) → Int32 → Option ((Nat → Nat → Int32))) (s_self : Nat → Nat → Int32) (v1 v2 v3 v4 : Int32) : Option ((Nat → Nat → Int32)) :=
  nm (v4 + 1) fun v4_1 =>
  kb s_self v3 v4_1
set_option maxHeartbeats 4000000 in
set_option maxRecDepth 100000 in
theorem t_Md_takeStretch_469 {p : Program} {l : Launch} {e : Env} {s : State} {m : MethodId} {args : Array Value} {below : List Frame} {meth : Method} {c : Code} {A : Nat → Prop} {D : va_G} {K : Nat → ClassId} (a_self a_least : Nat → Nat) (X : gx p s m args c b_Md_takeStretch 7 R_Md w_Md_takeStretch D classes (tyK K) A) (hr : meth.sig.returnType = none) (hlk : meth.locks = false) (N : Nat) (f_self : Nat → Nat → Int32) (s_self : Nat → Nat → Int32) (v1 v2 v3 v4 : Int32) (kb : (Nat → Nat → Int32) → Int32 → Int32 → Option ((Nat → Nat → Int32))) (hkb : ∀ (s_self : Nat → Nat → Int32) (v3 v4 : Int32), kb s_self v3 v4 = some f_self → Gd p l e rm_Md_takeStretch s m args below meth c 0 0 (MQ below (sq D classes (tyK K) none [wd_Md K a_self (a_least 0) f_self] A) args s 0 0 A) D classes A 7 351 [wd_Md K a_self (a_least 0) s_self] [(0, .ref (a_self 0)), (1, .int v1), (2, .int v2), (3, .int v3), (4, .int v4)] []) (kx475 : (Nat → Nat → Int32) → Int32 → Option ((Nat → Nat → Int32))) (hkx475 : ∀ (s_self : Nat → Nat → Int32) (v3 : Int32), kx475 s_self v3 = some f_self → Gd p l e rm_Md_takeStretch s m args below meth c 0 0 (MQ below (sq D classes (tyK K) none [wd_Md K a_self (a_least 0) f_self] A) args s 0 0 A) D classes A 7 475 [wd_Md K a_self (a_least 0) s_self] [(0, .ref (a_self 0)), (1, .int v1), (2, .int v2), (3, .int v3)] []) (h : f_Md_takeStretch_469 N kb kx475 s_self v1 v2 v3 v4 = some f_self) : Gd p l e rm_Md_takeStretch s m args below meth c 0 0 (MQ below (sq D classes (tyK K) none [wd_Md K a_self (a_least 0) f_self] A) args s 0 0 A) D classes A 7 469 [wd_Md K a_self (a_least 0) s_self] [(0, .ref (a_self 0)), (1, .int v1), (2, .int v2), (3, .int v3), (4, .int v4)] [] := by
  unfold f_Md_takeStretch_469 at h
  obtain ⟨v4_1, ev4_1, h⟩ := nm_e' h
  refine gd_iinc X (v := v4_1) (lv' := [(4, .int v4_1), (0, .ref (a_self 0)), (1, .int v1), (2, .int v2), (3, .int v3)]) d_Md_takeStretch_469 (k := 4) rfl (by rw [ev4_1]; rfl) (by decide) rfl ?_
  refine gd_goto X (tgt := 351) d_Md_takeStretch_472 (by decide) ?_
  refine gd_loc (lv' := [(0, .ref (a_self 0)), (1, .int v1), (2, .int v2), (3, .int v3), (4, .int v4_1)]) [1, 2, 3, 4, 0] rfl ?_
  exact hkb s_self v3 v4_1 h
def l_Md_takeStretch_363 (N : Nat) (v1 v2 v4 : Int32) (kx469 : (Nat → Nat → Int32) → Int32 → Option ((Nat → Nat → Int32))) : Nat → (Nat → Nat → Int32) → Int32 → Int32 → Option ((Nat → Nat → Int32))
  | 0, _, _, _ => none
  | n + 1, s_self, v3, v5 => f_Md_takeStretch_363 N (l_Md_takeStretch_363 N v1 v2 v4 kx469 n) kx469 s_self v1 v2 v3 v4 v5
set_option maxHeartbeats 4000000 in
set_option maxRecDepth 100000 in
theorem tl_Md_takeStretch_363 {p : Program} {l : Launch} {e : Env} {s : State} {m : MethodId} {args : Array Value} {below : List Frame} {meth : Method} {c : Code} {A : Nat → Prop} {D : va_G} {K : Nat → ClassId} (a_self a_least : Nat → Nat) (X : gx p s m args c b_Md_takeStretch 7 R_Md w_Md_takeStretch D classes (tyK K) A) (hr : meth.sig.returnType = none) (hlk : meth.locks = false) (N : Nat) (f_self : Nat → Nat → Int32) (v1 v2 v4 : Int32) (kx469 : (Nat → Nat → Int32) → Int32 → Option ((Nat → Nat → Int32))) (hkx469 : ∀ (s_self : Nat → Nat → Int32) (v3 : Int32), kx469 s_self v3 = some f_self → Gd p l e rm_Md_takeStretch s m args below meth c 0 0 (MQ below (sq D classes (tyK K) none [wd_Md K a_self (a_least 0) f_self] A) args s 0 0 A) D classes A 7 469 [wd_Md K a_self (a_least 0) s_self] [(0, .ref (a_self 0)), (1, .int v1), (2, .int v2), (3, .int v3), (4, .int v4)] []) : ∀ (n : Nat) (s_self : Nat → Nat → Int32) (v3 v5 : Int32), l_Md_takeStretch_363 N v1 v2 v4 kx469 n s_self v3 v5 = some f_self → Gd p l e rm_Md_takeStretch s m args below meth c 0 0 (MQ below (sq D classes (tyK K) none [wd_Md K a_self (a_least 0) f_self] A) args s 0 0 A) D classes A 7 363 [wd_Md K a_self (a_least 0) s_self] [(0, .ref (a_self 0)), (1, .int v1), (2, .int v2), (3, .int v3), (4, .int v4), (5, .int v5)] [] := by
  intro n
  induction n with
  | zero => intro s_self v3 v5 h; have h : (none : Option ((Nat → Nat → Int32))) = some _ := h; cases h
  | succ n ih =>
    intro s_self v3 v5 h
    exact t_Md_takeStretch_363 a_self a_least X hr hlk N f_self s_self v1 v2 v3 v4 v5 (l_Md_takeStretch_363 N v1 v2 v4 kx469 n) ih kx469 hkx469 h
def f_Md_takeStretch_351 (N : Nat) (kb : (Nat → Nat → Int32) → Int32 → Int32 → Option ((Nat → Nat → Int32))) (kx475 : (Nat → Nat → Int32) → Int32 → Option ((Nat → Nat → Int32))) (s_self : Nat → Nat → Int32) (v1 v2 v3 v4 : Int32) : Option ((Nat → Nat → Int32)) :=
  if (s_self 0 4) ≤ v4 then
    kx475 s_self v3
  else
    l_Md_takeStretch_363 N v1 v2 v4 (fun s_self v3 => f_Md_takeStretch_469 N kb kx475 s_self v1 v2 v3 v4) N s_self v3 0
set_option maxHeartbeats 4000000 in
set_option maxRecDepth 100000 in
theorem t_Md_takeStretch_351 {p : Program} {l : Launch} {e : Env} {s : State} {m : MethodId} {args : Array Value} {below : List Frame} {meth : Method} {c : Code} {A : Nat → Prop} {D : va_G} {K : Nat → ClassId} (a_self a_least : Nat → Nat) (X : gx p s m args c b_Md_takeStretch 7 R_Md w_Md_takeStretch D classes (tyK K) A) (hr : meth.sig.returnType = none) (hlk : meth.locks = false) (N : Nat) (f_self : Nat → Nat → Int32) (s_self : Nat → Nat → Int32) (v1 v2 v3 v4 : Int32) (kb : (Nat → Nat → Int32) → Int32 → Int32 → Option ((Nat → Nat → Int32))) (hkb : ∀ (s_self : Nat → Nat → Int32) (v3 v4 : Int32), kb s_self v3 v4 = some f_self → Gd p l e rm_Md_takeStretch s m args below meth c 0 0 (MQ below (sq D classes (tyK K) none [wd_Md K a_self (a_least 0) f_self] A) args s 0 0 A) D classes A 7 351 [wd_Md K a_self (a_least 0) s_self] [(0, .ref (a_self 0)), (1, .int v1), (2, .int v2), (3, .int v3), (4, .int v4)] []) (kx475 : (Nat → Nat → Int32) → Int32 → Option ((Nat → Nat → Int32))) (hkx475 : ∀ (s_self : Nat → Nat → Int32) (v3 : Int32), kx475 s_self v3 = some f_self → Gd p l e rm_Md_takeStretch s m args below meth c 0 0 (MQ below (sq D classes (tyK K) none [wd_Md K a_self (a_least 0) f_self] A) args s 0 0 A) D classes A 7 475 [wd_Md K a_self (a_least 0) s_self] [(0, .ref (a_self 0)), (1, .int v1), (2, .int v2), (3, .int v3)] []) (h : f_Md_takeStretch_351 N kb kx475 s_self v1 v2 v3 v4 = some f_self) : Gd p l e rm_Md_takeStretch s m args below meth c 0 0 (MQ below (sq D classes (tyK K) none [wd_Md K a_self (a_least 0) f_self] A) args s 0 0 A) D classes A 7 351 [wd_Md K a_self (a_least 0) s_self] [(0, .ref (a_self 0)), (1, .int v1), (2, .int v2), (3, .int v3), (4, .int v4)] [] := by
  unfold f_Md_takeStretch_351 at h
  refine gd_iload X d_Md_takeStretch_351 4 rfl ?_
  refine gd_aload_n X d_Md_takeStretch_353 0 rfl ?_
  refine gd_get X (ci := 7) (C := R_Md) (T := F_Md) (N := 36) (v := .int (s_self 0 4)) 0 0 rfl rfl rfl (in_Md _) 4 (by decide) (List.mem_cons_of_mem _ fl_Md_103) rfl rfl d_Md_takeStretch_354 ?_
  refine gd_icmp_ge X (tgt := 475) d_Md_takeStretch_357 (by decide) (fun c_1 => ?_) (fun c_1 => ?_)
  · replace h := it_p c_1 h
    refine gd_loc (lv' := [(0, .ref (a_self 0)), (1, .int v1), (2, .int v2), (3, .int v3)]) [0, 1, 2, 3] rfl ?_
    exact hkx475 s_self v3 h
  · replace h := it_n c_1 h
    refine gd_iconst X (v := 0) d_Md_takeStretch_360 (by decide) ?_
    refine gd_istore X (lv' := [(5, .int 0), (0, .ref (a_self 0)), (1, .int v1), (2, .int v2), (3, .int v3), (4, .int v4)]) d_Md_takeStretch_361 (by decide) rfl ?_
    refine gd_loc (lv' := [(0, .ref (a_self 0)), (1, .int v1), (2, .int v2), (3, .int v3), (4, .int v4), (5, .int 0)]) [1, 2, 3, 4, 5, 0] rfl ?_
    exact tl_Md_takeStretch_363 a_self a_least X hr hlk N f_self v1 v2 v4 (fun s_self v3 => f_Md_takeStretch_469 N kb kx475 s_self v1 v2 v3 v4) (fun s_self v3 h => t_Md_takeStretch_469 a_self a_least X hr hlk N f_self s_self v1 v2 v3 v4 kb hkb kx475 hkx475 h) N s_self v3 0 h
def f_Md_takeStretch_475 (N : Nat) (kb : (Nat → Nat → Int32) → Int32 → Option ((Nat → Nat → Int32))) (kx478 : (Nat → Nat → Int32) → Option ((Nat → Nat → Int32))) (s_self : Nat → Nat → Int32) (v1 v2 v3 : Int32) : Option ((Nat → Nat → Int32)) :=
  kb s_self v3
set_option maxHeartbeats 4000000 in
set_option maxRecDepth 100000 in
theorem t_Md_takeStretch_475 {p : Program} {l : Launch} {e : Env} {s : State} {m : MethodId} {args : Array Value} {below : List Frame} {meth : Method} {c : Code} {A : Nat → Prop} {D : va_G} {K : Nat → ClassId} (a_self a_least : Nat → Nat) (X : gx p s m args c b_Md_takeStretch 7 R_Md w_Md_takeStretch D classes (tyK K) A) (hr : meth.sig.returnType = none) (hlk : meth.locks = false) (N : Nat) (f_self : Nat → Nat → Int32) (s_self : Nat → Nat → Int32) (v1 v2 v3 : Int32) (kb : (Nat → Nat → Int32) → Int32 → Option ((Nat → Nat → Int32))) (hkb : ∀ (s_self : Nat → Nat → Int32) (v3 : Int32), kb s_self v3 = some f_self → Gd p l e rm_Md_takeStretch s m args below meth c 0 0 (MQ below (sq D classes (tyK K) none [wd_Md K a_self (a_least 0) f_self] A) args s 0 0 A) D classes A 7 342 [wd_Md K a_self (a_least 0) s_self] [(0, .ref (a_self 0)), (1, .int v1), (2, .int v2), (3, .int v3)] []) (kx478 : (Nat → Nat → Int32) → Option ((Nat → Nat → Int32))) (hkx478 : ∀ (s_self : Nat → Nat → Int32), kx478 s_self = some f_self → Gd p l e rm_Md_takeStretch s m args below meth c 0 0 (MQ below (sq D classes (tyK K) none [wd_Md K a_self (a_least 0) f_self] A) args s 0 0 A) D classes A 7 478 [wd_Md K a_self (a_least 0) s_self] [] []) (h : f_Md_takeStretch_475 N kb kx478 s_self v1 v2 v3 = some f_self) : Gd p l e rm_Md_takeStretch s m args below meth c 0 0 (MQ below (sq D classes (tyK K) none [wd_Md K a_self (a_least 0) f_self] A) args s 0 0 A) D classes A 7 475 [wd_Md K a_self (a_least 0) s_self] [(0, .ref (a_self 0)), (1, .int v1), (2, .int v2), (3, .int v3)] [] := by
  unfold f_Md_takeStretch_475 at h
  refine gd_goto X (tgt := 342) d_Md_takeStretch_475 (by decide) ?_
  exact hkb s_self v3 h
def l_Md_takeStretch_351 (N : Nat) (v1 v2 : Int32) (kx475 : (Nat → Nat → Int32) → Int32 → Option ((Nat → Nat → Int32))) : Nat → (Nat → Nat → Int32) → Int32 → Int32 → Option ((Nat → Nat → Int32))
  | 0, _, _, _ => none
  | n + 1, s_self, v3, v4 => f_Md_takeStretch_351 N (l_Md_takeStretch_351 N v1 v2 kx475 n) kx475 s_self v1 v2 v3 v4
set_option maxHeartbeats 4000000 in
set_option maxRecDepth 100000 in
theorem tl_Md_takeStretch_351 {p : Program} {l : Launch} {e : Env} {s : State} {m : MethodId} {args : Array Value} {below : List Frame} {meth : Method} {c : Code} {A : Nat → Prop} {D : va_G} {K : Nat → ClassId} (a_self a_least : Nat → Nat) (X : gx p s m args c b_Md_takeStretch 7 R_Md w_Md_takeStretch D classes (tyK K) A) (hr : meth.sig.returnType = none) (hlk : meth.locks = false) (N : Nat) (f_self : Nat → Nat → Int32) (v1 v2 : Int32) (kx475 : (Nat → Nat → Int32) → Int32 → Option ((Nat → Nat → Int32))) (hkx475 : ∀ (s_self : Nat → Nat → Int32) (v3 : Int32), kx475 s_self v3 = some f_self → Gd p l e rm_Md_takeStretch s m args below meth c 0 0 (MQ below (sq D classes (tyK K) none [wd_Md K a_self (a_least 0) f_self] A) args s 0 0 A) D classes A 7 475 [wd_Md K a_self (a_least 0) s_self] [(0, .ref (a_self 0)), (1, .int v1), (2, .int v2), (3, .int v3)] []) : ∀ (n : Nat) (s_self : Nat → Nat → Int32) (v3 v4 : Int32), l_Md_takeStretch_351 N v1 v2 kx475 n s_self v3 v4 = some f_self → Gd p l e rm_Md_takeStretch s m args below meth c 0 0 (MQ below (sq D classes (tyK K) none [wd_Md K a_self (a_least 0) f_self] A) args s 0 0 A) D classes A 7 351 [wd_Md K a_self (a_least 0) s_self] [(0, .ref (a_self 0)), (1, .int v1), (2, .int v2), (3, .int v3), (4, .int v4)] [] := by
  intro n
  induction n with
  | zero => intro s_self v3 v4 h; have h : (none : Option ((Nat → Nat → Int32))) = some _ := h; cases h
  | succ n ih =>
    intro s_self v3 v4 h
    exact t_Md_takeStretch_351 a_self a_least X hr hlk N f_self s_self v1 v2 v3 v4 (l_Md_takeStretch_351 N v1 v2 kx475 n) ih kx475 hkx475 h
def f_Md_takeStretch_342 (N : Nat) (kb : (Nat → Nat → Int32) → Int32 → Option ((Nat → Nat → Int32))) (kx478 : (Nat → Nat → Int32) → Option ((Nat → Nat → Int32))) (s_self : Nat → Nat → Int32) (v1 v2 v3 : Int32) : Option ((Nat → Nat → Int32)) :=
  if v3 = 0 then
    kx478 s_self
  else
    l_Md_takeStretch_351 N v1 v2 (fun s_self v3 => f_Md_takeStretch_475 N kb kx478 s_self v1 v2 v3) N s_self 0 0
set_option maxHeartbeats 4000000 in
set_option maxRecDepth 100000 in
theorem t_Md_takeStretch_342 {p : Program} {l : Launch} {e : Env} {s : State} {m : MethodId} {args : Array Value} {below : List Frame} {meth : Method} {c : Code} {A : Nat → Prop} {D : va_G} {K : Nat → ClassId} (a_self a_least : Nat → Nat) (X : gx p s m args c b_Md_takeStretch 7 R_Md w_Md_takeStretch D classes (tyK K) A) (hr : meth.sig.returnType = none) (hlk : meth.locks = false) (N : Nat) (f_self : Nat → Nat → Int32) (s_self : Nat → Nat → Int32) (v1 v2 v3 : Int32) (kb : (Nat → Nat → Int32) → Int32 → Option ((Nat → Nat → Int32))) (hkb : ∀ (s_self : Nat → Nat → Int32) (v3 : Int32), kb s_self v3 = some f_self → Gd p l e rm_Md_takeStretch s m args below meth c 0 0 (MQ below (sq D classes (tyK K) none [wd_Md K a_self (a_least 0) f_self] A) args s 0 0 A) D classes A 7 342 [wd_Md K a_self (a_least 0) s_self] [(0, .ref (a_self 0)), (1, .int v1), (2, .int v2), (3, .int v3)] []) (kx478 : (Nat → Nat → Int32) → Option ((Nat → Nat → Int32))) (hkx478 : ∀ (s_self : Nat → Nat → Int32), kx478 s_self = some f_self → Gd p l e rm_Md_takeStretch s m args below meth c 0 0 (MQ below (sq D classes (tyK K) none [wd_Md K a_self (a_least 0) f_self] A) args s 0 0 A) D classes A 7 478 [wd_Md K a_self (a_least 0) s_self] [] []) (h : f_Md_takeStretch_342 N kb kx478 s_self v1 v2 v3 = some f_self) : Gd p l e rm_Md_takeStretch s m args below meth c 0 0 (MQ below (sq D classes (tyK K) none [wd_Md K a_self (a_least 0) f_self] A) args s 0 0 A) D classes A 7 342 [wd_Md K a_self (a_least 0) s_self] [(0, .ref (a_self 0)), (1, .int v1), (2, .int v2), (3, .int v3)] [] := by
  unfold f_Md_takeStretch_342 at h
  refine gd_iload_n X d_Md_takeStretch_342 3 rfl ?_
  refine gd_if_eq X (tgt := 478) d_Md_takeStretch_343 (by decide) (fun c_1 => ?_) (fun c_1 => ?_)
  · replace h := it_p c_1 h
    refine gd_loc (lv' := []) [] rfl ?_
    exact hkx478 s_self h
  · replace h := it_n c_1 h
    refine gd_iconst X (v := 0) d_Md_takeStretch_346 (by decide) ?_
    refine gd_istore_n X (lv' := [(3, .int 0), (0, .ref (a_self 0)), (1, .int v1), (2, .int v2)]) d_Md_takeStretch_347 rfl (by decide) rfl ?_
    refine gd_iconst X (v := 0) d_Md_takeStretch_348 (by decide) ?_
    refine gd_istore X (lv' := [(4, .int 0), (3, .int 0), (0, .ref (a_self 0)), (1, .int v1), (2, .int v2)]) d_Md_takeStretch_349 (by decide) rfl ?_
    refine gd_loc (lv' := [(0, .ref (a_self 0)), (1, .int v1), (2, .int v2), (3, .int 0), (4, .int 0)]) [2, 3, 4, 1, 0] rfl ?_
    exact tl_Md_takeStretch_351 a_self a_least X hr hlk N f_self v1 v2 (fun s_self v3 => f_Md_takeStretch_475 N kb kx478 s_self v1 v2 v3) (fun s_self v3 h => t_Md_takeStretch_475 a_self a_least X hr hlk N f_self s_self v1 v2 v3 kb hkb kx478 hkx478 h) N s_self 0 0 h
def f_Md_takeStretch_478 (N : Nat) (s_self : Nat → Nat → Int32) : Option ((Nat → Nat → Int32)) :=
  some s_self
set_option maxHeartbeats 4000000 in
set_option maxRecDepth 100000 in
theorem t_Md_takeStretch_478 {p : Program} {l : Launch} {e : Env} {s : State} {m : MethodId} {args : Array Value} {below : List Frame} {meth : Method} {c : Code} {A : Nat → Prop} {D : va_G} {K : Nat → ClassId} (a_self a_least : Nat → Nat) (X : gx p s m args c b_Md_takeStretch 7 R_Md w_Md_takeStretch D classes (tyK K) A) (hr : meth.sig.returnType = none) (hlk : meth.locks = false) (N : Nat) (f_self : Nat → Nat → Int32) (s_self : Nat → Nat → Int32) (h : f_Md_takeStretch_478 N s_self = some f_self) : Gd p l e rm_Md_takeStretch s m args below meth c 0 0 (MQ below (sq D classes (tyK K) none [wd_Md K a_self (a_least 0) f_self] A) args s 0 0 A) D classes A 7 478 [wd_Md K a_self (a_least 0) s_self] [] [] := by
  unfold f_Md_takeStretch_478 at h
  cases h
  exact gd_vret X hr hlk d_Md_takeStretch_478
def l_Md_takeStretch_342 (N : Nat) (v1 v2 : Int32) (kx478 : (Nat → Nat → Int32) → Option ((Nat → Nat → Int32))) : Nat → (Nat → Nat → Int32) → Int32 → Option ((Nat → Nat → Int32))
  | 0, _, _ => none
  | n + 1, s_self, v3 => f_Md_takeStretch_342 N (l_Md_takeStretch_342 N v1 v2 kx478 n) kx478 s_self v1 v2 v3
set_option maxHeartbeats 4000000 in
set_option maxRecDepth 100000 in
theorem tl_Md_takeStretch_342 {p : Program} {l : Launch} {e : Env} {s : State} {m : MethodId} {args : Array Value} {below : List Frame} {meth : Method} {c : Code} {A : Nat → Prop} {D : va_G} {K : Nat → ClassId} (a_self a_least : Nat → Nat) (X : gx p s m args c b_Md_takeStretch 7 R_Md w_Md_takeStretch D classes (tyK K) A) (hr : meth.sig.returnType = none) (hlk : meth.locks = false) (N : Nat) (f_self : Nat → Nat → Int32) (v1 v2 : Int32) (kx478 : (Nat → Nat → Int32) → Option ((Nat → Nat → Int32))) (hkx478 : ∀ (s_self : Nat → Nat → Int32), kx478 s_self = some f_self → Gd p l e rm_Md_takeStretch s m args below meth c 0 0 (MQ below (sq D classes (tyK K) none [wd_Md K a_self (a_least 0) f_self] A) args s 0 0 A) D classes A 7 478 [wd_Md K a_self (a_least 0) s_self] [] []) : ∀ (n : Nat) (s_self : Nat → Nat → Int32) (v3 : Int32), l_Md_takeStretch_342 N v1 v2 kx478 n s_self v3 = some f_self → Gd p l e rm_Md_takeStretch s m args below meth c 0 0 (MQ below (sq D classes (tyK K) none [wd_Md K a_self (a_least 0) f_self] A) args s 0 0 A) D classes A 7 342 [wd_Md K a_self (a_least 0) s_self] [(0, .ref (a_self 0)), (1, .int v1), (2, .int v2), (3, .int v3)] [] := by
  intro n
  induction n with
  | zero => intro s_self v3 h; have h : (none : Option ((Nat → Nat → Int32))) = some _ := h; cases h
  | succ n ih =>
    intro s_self v3 h
    exact t_Md_takeStretch_342 a_self a_least X hr hlk N f_self s_self v1 v2 v3 (l_Md_takeStretch_342 N v1 v2 kx478 n) ih kx478 hkx478 h
def f_Md_takeStretch_340 (N : Nat) (s_self : Nat → Nat → Int32) (v1 v2 : Int32) : Option ((Nat → Nat → Int32)) :=
  l_Md_takeStretch_342 N v1 v2 (fun s_self => f_Md_takeStretch_478 N s_self) N s_self 1
set_option maxHeartbeats 4000000 in
set_option maxRecDepth 100000 in
theorem t_Md_takeStretch_340 {p : Program} {l : Launch} {e : Env} {s : State} {m : MethodId} {args : Array Value} {below : List Frame} {meth : Method} {c : Code} {A : Nat → Prop} {D : va_G} {K : Nat → ClassId} (a_self a_least : Nat → Nat) (X : gx p s m args c b_Md_takeStretch 7 R_Md w_Md_takeStretch D classes (tyK K) A) (hr : meth.sig.returnType = none) (hlk : meth.locks = false) (N : Nat) (f_self : Nat → Nat → Int32) (s_self : Nat → Nat → Int32) (v1 v2 : Int32) (h : f_Md_takeStretch_340 N s_self v1 v2 = some f_self) : Gd p l e rm_Md_takeStretch s m args below meth c 0 0 (MQ below (sq D classes (tyK K) none [wd_Md K a_self (a_least 0) f_self] A) args s 0 0 A) D classes A 7 340 [wd_Md K a_self (a_least 0) s_self] [(0, .ref (a_self 0)), (1, .int v1), (2, .int v2)] [] := by
  unfold f_Md_takeStretch_340 at h
  refine gd_iconst X (v := 1) d_Md_takeStretch_340 (by decide) ?_
  refine gd_istore_n X (lv' := [(3, .int 1), (0, .ref (a_self 0)), (1, .int v1), (2, .int v2)]) d_Md_takeStretch_341 rfl (by decide) rfl ?_
  refine gd_loc (lv' := [(0, .ref (a_self 0)), (1, .int v1), (2, .int v2), (3, .int 1)]) [1, 2, 3, 0] rfl ?_
  exact tl_Md_takeStretch_342 a_self a_least X hr hlk N f_self v1 v2 (fun s_self => f_Md_takeStretch_478 N s_self) (fun s_self h => t_Md_takeStretch_478 a_self a_least X hr hlk N f_self s_self h) N s_self 1 h
def l_Md_takeStretch_309 (N : Nat) (v1 v2 : Int32) (kx340 : (Nat → Nat → Int32) → Option ((Nat → Nat → Int32))) : Nat → (Nat → Nat → Int32) → Int32 → Option ((Nat → Nat → Int32))
  | 0, _, _ => none
  | n + 1, s_self, v3 => f_Md_takeStretch_309 N (l_Md_takeStretch_309 N v1 v2 kx340 n) kx340 s_self v1 v2 v3
set_option maxHeartbeats 4000000 in
set_option maxRecDepth 100000 in
theorem tl_Md_takeStretch_309 {p : Program} {l : Launch} {e : Env} {s : State} {m : MethodId} {args : Array Value} {below : List Frame} {meth : Method} {c : Code} {A : Nat → Prop} {D : va_G} {K : Nat → ClassId} (a_self a_least : Nat → Nat) (X : gx p s m args c b_Md_takeStretch 7 R_Md w_Md_takeStretch D classes (tyK K) A) (hr : meth.sig.returnType = none) (hlk : meth.locks = false) (N : Nat) (f_self : Nat → Nat → Int32) (v1 v2 : Int32) (kx340 : (Nat → Nat → Int32) → Option ((Nat → Nat → Int32))) (hkx340 : ∀ (s_self : Nat → Nat → Int32), kx340 s_self = some f_self → Gd p l e rm_Md_takeStretch s m args below meth c 0 0 (MQ below (sq D classes (tyK K) none [wd_Md K a_self (a_least 0) f_self] A) args s 0 0 A) D classes A 7 340 [wd_Md K a_self (a_least 0) s_self] [(0, .ref (a_self 0)), (1, .int v1), (2, .int v2)] []) : ∀ (n : Nat) (s_self : Nat → Nat → Int32) (v3 : Int32), l_Md_takeStretch_309 N v1 v2 kx340 n s_self v3 = some f_self → Gd p l e rm_Md_takeStretch s m args below meth c 0 0 (MQ below (sq D classes (tyK K) none [wd_Md K a_self (a_least 0) f_self] A) args s 0 0 A) D classes A 7 309 [wd_Md K a_self (a_least 0) s_self] [(0, .ref (a_self 0)), (1, .int v1), (2, .int v2), (3, .int v3)] [] := by
  intro n
  induction n with
  | zero => intro s_self v3 h; have h : (none : Option ((Nat → Nat → Int32))) = some _ := h; cases h
  | succ n ih =>
    intro s_self v3 h
    exact t_Md_takeStretch_309 a_self a_least X hr hlk N f_self s_self v1 v2 v3 (l_Md_takeStretch_309 N v1 v2 kx340 n) ih kx340 hkx340 h
def f_Md_takeStretch_307 (N : Nat) (s_self : Nat → Nat → Int32) (v1 v2 : Int32) : Option ((Nat → Nat → Int32)) :=
  l_Md_takeStretch_309 N v1 v2 (fun s_self => f_Md_takeStretch_340 N s_self v1 v2) N s_self 0
set_option maxHeartbeats 4000000 in
set_option maxRecDepth 100000 in
theorem t_Md_takeStretch_307 {p : Program} {l : Launch} {e : Env} {s : State} {m : MethodId} {args : Array Value} {below : List Frame} {meth : Method} {c : Code} {A : Nat → Prop} {D : va_G} {K : Nat → ClassId} (a_self a_least : Nat → Nat) (X : gx p s m args c b_Md_takeStretch 7 R_Md w_Md_takeStretch D classes (tyK K) A) (hr : meth.sig.returnType = none) (hlk : meth.locks = false) (N : Nat) (f_self : Nat → Nat → Int32) (s_self : Nat → Nat → Int32) (v1 v2 : Int32) (h : f_Md_takeStretch_307 N s_self v1 v2 = some f_self) : Gd p l e rm_Md_takeStretch s m args below meth c 0 0 (MQ below (sq D classes (tyK K) none [wd_Md K a_self (a_least 0) f_self] A) args s 0 0 A) D classes A 7 307 [wd_Md K a_self (a_least 0) s_self] [(0, .ref (a_self 0)), (1, .int v1), (2, .int v2)] [] := by
  unfold f_Md_takeStretch_307 at h
  refine gd_iconst X (v := 0) d_Md_takeStretch_307 (by decide) ?_
  refine gd_istore_n X (lv' := [(3, .int 0), (0, .ref (a_self 0)), (1, .int v1), (2, .int v2)]) d_Md_takeStretch_308 rfl (by decide) rfl ?_
  refine gd_loc (lv' := [(0, .ref (a_self 0)), (1, .int v1), (2, .int v2), (3, .int 0)]) [1, 2, 3, 0] rfl ?_
  exact tl_Md_takeStretch_309 a_self a_least X hr hlk N f_self v1 v2 (fun s_self => f_Md_takeStretch_340 N s_self v1 v2) (fun s_self h => t_Md_takeStretch_340 a_self a_least X hr hlk N f_self s_self v1 v2 h) N s_self 0 h
def l_Md_takeStretch_170 (N : Nat) (v1 v2 : Int32) (kx307 : (Nat → Nat → Int32) → Option ((Nat → Nat → Int32))) : Nat → (Nat → Nat → Int32) → Int32 → Option ((Nat → Nat → Int32))
  | 0, _, _ => none
  | n + 1, s_self, v3 => f_Md_takeStretch_170 N (l_Md_takeStretch_170 N v1 v2 kx307 n) kx307 s_self v1 v2 v3
set_option maxHeartbeats 4000000 in
set_option maxRecDepth 100000 in
theorem tl_Md_takeStretch_170 {p : Program} {l : Launch} {e : Env} {s : State} {m : MethodId} {args : Array Value} {below : List Frame} {meth : Method} {c : Code} {A : Nat → Prop} {D : va_G} {K : Nat → ClassId} (a_self a_least : Nat → Nat) (X : gx p s m args c b_Md_takeStretch 7 R_Md w_Md_takeStretch D classes (tyK K) A) (hr : meth.sig.returnType = none) (hlk : meth.locks = false) (N : Nat) (f_self : Nat → Nat → Int32) (v1 v2 : Int32) (kx307 : (Nat → Nat → Int32) → Option ((Nat → Nat → Int32))) (hkx307 : ∀ (s_self : Nat → Nat → Int32), kx307 s_self = some f_self → Gd p l e rm_Md_takeStretch s m args below meth c 0 0 (MQ below (sq D classes (tyK K) none [wd_Md K a_self (a_least 0) f_self] A) args s 0 0 A) D classes A 7 307 [wd_Md K a_self (a_least 0) s_self] [(0, .ref (a_self 0)), (1, .int v1), (2, .int v2)] []) : ∀ (n : Nat) (s_self : Nat → Nat → Int32) (v3 : Int32), l_Md_takeStretch_170 N v1 v2 kx307 n s_self v3 = some f_self → Gd p l e rm_Md_takeStretch s m args below meth c 0 0 (MQ below (sq D classes (tyK K) none [wd_Md K a_self (a_least 0) f_self] A) args s 0 0 A) D classes A 7 170 [wd_Md K a_self (a_least 0) s_self] [(0, .ref (a_self 0)), (1, .int v1), (2, .int v2), (3, .int v3)] [] := by
  intro n
  induction n with
  | zero => intro s_self v3 h; have h : (none : Option ((Nat → Nat → Int32))) = some _ := h; cases h
  | succ n ih =>
    intro s_self v3 h
    exact t_Md_takeStretch_170 a_self a_least X hr hlk N f_self s_self v1 v2 v3 (l_Md_takeStretch_170 N v1 v2 kx307 n) ih kx307 hkx307 h
def f_Md_takeStretch_168 (N : Nat) (s_self : Nat → Nat → Int32) (v1 v2 : Int32) : Option ((Nat → Nat → Int32)) :=
  l_Md_takeStretch_170 N v1 v2 (fun s_self => f_Md_takeStretch_307 N s_self v1 v2) N s_self 0
set_option maxHeartbeats 4000000 in
set_option maxRecDepth 100000 in
theorem t_Md_takeStretch_168 {p : Program} {l : Launch} {e : Env} {s : State} {m : MethodId} {args : Array Value} {below : List Frame} {meth : Method} {c : Code} {A : Nat → Prop} {D : va_G} {K : Nat → ClassId} (a_self a_least : Nat → Nat) (X : gx p s m args c b_Md_takeStretch 7 R_Md w_Md_takeStretch D classes (tyK K) A) (hr : meth.sig.returnType = none) (hlk : meth.locks = false) (N : Nat) (f_self : Nat → Nat → Int32) (s_self : Nat → Nat → Int32) (v1 v2 : Int32) (h : f_Md_takeStretch_168 N s_self v1 v2 = some f_self) : Gd p l e rm_Md_takeStretch s m args below meth c 0 0 (MQ below (sq D classes (tyK K) none [wd_Md K a_self (a_least 0) f_self] A) args s 0 0 A) D classes A 7 168 [wd_Md K a_self (a_least 0) s_self] [(0, .ref (a_self 0)), (1, .int v1), (2, .int v2)] [] := by
  unfold f_Md_takeStretch_168 at h
  refine gd_iconst X (v := 0) d_Md_takeStretch_168 (by decide) ?_
  refine gd_istore_n X (lv' := [(3, .int 0), (0, .ref (a_self 0)), (1, .int v1), (2, .int v2)]) d_Md_takeStretch_169 rfl (by decide) rfl ?_
  refine gd_loc (lv' := [(0, .ref (a_self 0)), (1, .int v1), (2, .int v2), (3, .int 0)]) [1, 2, 3, 0] rfl ?_
  exact tl_Md_takeStretch_170 a_self a_least X hr hlk N f_self v1 v2 (fun s_self => f_Md_takeStretch_307 N s_self v1 v2) (fun s_self h => t_Md_takeStretch_307 a_self a_least X hr hlk N f_self s_self v1 v2 h) N s_self 0 h
def l_Md_takeStretch_147 (N : Nat) (v1 v2 : Int32) (kx168 : (Nat → Nat → Int32) → Option ((Nat → Nat → Int32))) : Nat → (Nat → Nat → Int32) → Int32 → Option ((Nat → Nat → Int32))
  | 0, _, _ => none
  | n + 1, s_self, v3 => f_Md_takeStretch_147 N (l_Md_takeStretch_147 N v1 v2 kx168 n) kx168 s_self v1 v2 v3
set_option maxHeartbeats 4000000 in
set_option maxRecDepth 100000 in
theorem tl_Md_takeStretch_147 {p : Program} {l : Launch} {e : Env} {s : State} {m : MethodId} {args : Array Value} {below : List Frame} {meth : Method} {c : Code} {A : Nat → Prop} {D : va_G} {K : Nat → ClassId} (a_self a_least : Nat → Nat) (X : gx p s m args c b_Md_takeStretch 7 R_Md w_Md_takeStretch D classes (tyK K) A) (hr : meth.sig.returnType = none) (hlk : meth.locks = false) (N : Nat) (f_self : Nat → Nat → Int32) (v1 v2 : Int32) (kx168 : (Nat → Nat → Int32) → Option ((Nat → Nat → Int32))) (hkx168 : ∀ (s_self : Nat → Nat → Int32), kx168 s_self = some f_self → Gd p l e rm_Md_takeStretch s m args below meth c 0 0 (MQ below (sq D classes (tyK K) none [wd_Md K a_self (a_least 0) f_self] A) args s 0 0 A) D classes A 7 168 [wd_Md K a_self (a_least 0) s_self] [(0, .ref (a_self 0)), (1, .int v1), (2, .int v2)] []) : ∀ (n : Nat) (s_self : Nat → Nat → Int32) (v3 : Int32), l_Md_takeStretch_147 N v1 v2 kx168 n s_self v3 = some f_self → Gd p l e rm_Md_takeStretch s m args below meth c 0 0 (MQ below (sq D classes (tyK K) none [wd_Md K a_self (a_least 0) f_self] A) args s 0 0 A) D classes A 7 147 [wd_Md K a_self (a_least 0) s_self] [(0, .ref (a_self 0)), (1, .int v1), (2, .int v2), (3, .int v3)] [] := by
  intro n
  induction n with
  | zero => intro s_self v3 h; have h : (none : Option ((Nat → Nat → Int32))) = some _ := h; cases h
  | succ n ih =>
    intro s_self v3 h
    exact t_Md_takeStretch_147 a_self a_least X hr hlk N f_self s_self v1 v2 v3 (l_Md_takeStretch_147 N v1 v2 kx168 n) ih kx168 hkx168 h
def f_Md_takeStretch_145 (N : Nat) (s_self : Nat → Nat → Int32) (v1 v2 : Int32) : Option ((Nat → Nat → Int32)) :=
  l_Md_takeStretch_147 N v1 v2 (fun s_self => f_Md_takeStretch_168 N s_self v1 v2) N s_self 0
set_option maxHeartbeats 4000000 in
set_option maxRecDepth 100000 in
theorem t_Md_takeStretch_145 {p : Program} {l : Launch} {e : Env} {s : State} {m : MethodId} {args : Array Value} {below : List Frame} {meth : Method} {c : Code} {A : Nat → Prop} {D : va_G} {K : Nat → ClassId} (a_self a_least : Nat → Nat) (X : gx p s m args c b_Md_takeStretch 7 R_Md w_Md_takeStretch D classes (tyK K) A) (hr : meth.sig.returnType = none) (hlk : meth.locks = false) (N : Nat) (f_self : Nat → Nat → Int32) (s_self : Nat → Nat → Int32) (v1 v2 : Int32) (h : f_Md_takeStretch_145 N s_self v1 v2 = some f_self) : Gd p l e rm_Md_takeStretch s m args below meth c 0 0 (MQ below (sq D classes (tyK K) none [wd_Md K a_self (a_least 0) f_self] A) args s 0 0 A) D classes A 7 145 [wd_Md K a_self (a_least 0) s_self] [(0, .ref (a_self 0)), (1, .int v1), (2, .int v2)] [] := by
  unfold f_Md_takeStretch_145 at h
  refine gd_iconst X (v := 0) d_Md_takeStretch_145 (by decide) ?_
  refine gd_istore_n X (lv' := [(3, .int 0), (0, .ref (a_self 0)), (1, .int v1), (2, .int v2)]) d_Md_takeStretch_146 rfl (by decide) rfl ?_
  refine gd_loc (lv' := [(0, .ref (a_self 0)), (1, .int v1), (2, .int v2), (3, .int 0)]) [1, 2, 3, 0] rfl ?_
  exact tl_Md_takeStretch_147 a_self a_least X hr hlk N f_self v1 v2 (fun s_self => f_Md_takeStretch_168 N s_self v1 v2) (fun s_self h => t_Md_takeStretch_168 a_self a_least X hr hlk N f_self s_self v1 v2 h) N s_self 0 h
def l_Md_takeStretch_116 (N : Nat) (v1 v2 : Int32) (kx145 : (Nat → Nat → Int32) → Option ((Nat → Nat → Int32))) : Nat → (Nat → Nat → Int32) → Int32 → Option ((Nat → Nat → Int32))
  | 0, _, _ => none
  | n + 1, s_self, v3 => f_Md_takeStretch_116 N (l_Md_takeStretch_116 N v1 v2 kx145 n) kx145 s_self v1 v2 v3
set_option maxHeartbeats 4000000 in
set_option maxRecDepth 100000 in
theorem tl_Md_takeStretch_116 {p : Program} {l : Launch} {e : Env} {s : State} {m : MethodId} {args : Array Value} {below : List Frame} {meth : Method} {c : Code} {A : Nat → Prop} {D : va_G} {K : Nat → ClassId} (a_self a_least : Nat → Nat) (X : gx p s m args c b_Md_takeStretch 7 R_Md w_Md_takeStretch D classes (tyK K) A) (hr : meth.sig.returnType = none) (hlk : meth.locks = false) (N : Nat) (f_self : Nat → Nat → Int32) (v1 v2 : Int32) (kx145 : (Nat → Nat → Int32) → Option ((Nat → Nat → Int32))) (hkx145 : ∀ (s_self : Nat → Nat → Int32), kx145 s_self = some f_self → Gd p l e rm_Md_takeStretch s m args below meth c 0 0 (MQ below (sq D classes (tyK K) none [wd_Md K a_self (a_least 0) f_self] A) args s 0 0 A) D classes A 7 145 [wd_Md K a_self (a_least 0) s_self] [(0, .ref (a_self 0)), (1, .int v1), (2, .int v2)] []) : ∀ (n : Nat) (s_self : Nat → Nat → Int32) (v3 : Int32), l_Md_takeStretch_116 N v1 v2 kx145 n s_self v3 = some f_self → Gd p l e rm_Md_takeStretch s m args below meth c 0 0 (MQ below (sq D classes (tyK K) none [wd_Md K a_self (a_least 0) f_self] A) args s 0 0 A) D classes A 7 116 [wd_Md K a_self (a_least 0) s_self] [(0, .ref (a_self 0)), (1, .int v1), (2, .int v2), (3, .int v3)] [] := by
  intro n
  induction n with
  | zero => intro s_self v3 h; have h : (none : Option ((Nat → Nat → Int32))) = some _ := h; cases h
  | succ n ih =>
    intro s_self v3 h
    exact t_Md_takeStretch_116 a_self a_least X hr hlk N f_self s_self v1 v2 v3 (l_Md_takeStretch_116 N v1 v2 kx145 n) ih kx145 hkx145 h
def f_Md_takeStretch_51 (N : Nat) (s_self : Nat → Nat → Int32) (v1 v2 : Int32) : Option ((Nat → Nat → Int32)) :=
  if v2 = (v1 + 1) then
    ck v1 12 <|
    if 0 ≤ (s_self 5 (Int32.toNatClampNeg v1)) then
      l_Md_takeStretch_116 N v1 v2 (fun s_self => f_Md_takeStretch_145 N s_self v1 v2) N s_self 0
    else
      ck v1 12 <|
      ck ((-1) - (s_self 5 (Int32.toNatClampNeg v1))) 20 <|
      nm (s_self 1 (Int32.toNatClampNeg ((-1) - (s_self 5 (Int32.toNatClampNeg v1))))) fun v3_6 =>
      ck v3_6 6 <| nm (st2 s_self 16 (Int32.toNatClampNeg v3_6) 1) fun s_self_8 =>
      nm (st2 s_self_8 0 19 0) fun s_self_9 =>
      ck v1 12 <|
      bd1 (m_Md_add s_self_9 (s_self_9 5 (Int32.toNatClampNeg v1))) fun s_self_11 =>
      bd1 (m_Md_cellOf v3_6 v1 v2) fun r_13 =>
      bd2 (m_Md_offer N s_self_11 r_13) fun r_15 s_self_16 =>
      l_Md_takeStretch_116 N v1 v2 (fun s_self => f_Md_takeStretch_145 N s_self v1 v2) N s_self_16 0
  else
    l_Md_takeStretch_116 N v1 v2 (fun s_self => f_Md_takeStretch_145 N s_self v1 v2) N s_self 0
set_option maxHeartbeats 4000000 in
set_option maxRecDepth 100000 in
theorem t_Md_takeStretch_51 {p : Program} {l : Launch} {e : Env} {s : State} {m : MethodId} {args : Array Value} {below : List Frame} {meth : Method} {c : Code} {A : Nat → Prop} {D : va_G} {K : Nat → ClassId} (a_self a_least : Nat → Nat) (X : gx p s m args c b_Md_takeStretch 7 R_Md w_Md_takeStretch D classes (tyK K) A) (hr : meth.sig.returnType = none) (hlk : meth.locks = false) (N : Nat) (f_self : Nat → Nat → Int32) (s_self : Nat → Nat → Int32) (v1 v2 : Int32) (h : f_Md_takeStretch_51 N s_self v1 v2 = some f_self) : Gd p l e rm_Md_takeStretch s m args below meth c 0 0 (MQ below (sq D classes (tyK K) none [wd_Md K a_self (a_least 0) f_self] A) args s 0 0 A) D classes A 7 51 [wd_Md K a_self (a_least 0) s_self] [(0, .ref (a_self 0)), (1, .int v1), (2, .int v2)] [] := by
  unfold f_Md_takeStretch_51 at h
  refine gd_iload_n X d_Md_takeStretch_51 2 rfl ?_
  refine gd_iload_n X d_Md_takeStretch_52 1 rfl ?_
  refine gd_iconst X (v := 1) d_Md_takeStretch_53 (by decide) ?_
  refine gd_iadd X d_Md_takeStretch_54 ?_
  refine gd_icmp_ne X (tgt := 114) d_Md_takeStretch_55 (by decide) (fun c_1 => ?_) (fun c_1 => ?_)
  · replace h := it_n c_1 h
    refine gd_iconst X (v := 0) d_Md_takeStretch_114 (by decide) ?_
    refine gd_istore_n X (lv' := [(3, .int 0), (0, .ref (a_self 0)), (1, .int v1), (2, .int v2)]) d_Md_takeStretch_115 rfl (by decide) rfl ?_
    refine gd_loc (lv' := [(0, .ref (a_self 0)), (1, .int v1), (2, .int v2), (3, .int 0)]) [1, 2, 3, 0] rfl ?_
    exact tl_Md_takeStretch_116 a_self a_least X hr hlk N f_self v1 v2 (fun s_self => f_Md_takeStretch_145 N s_self v1 v2) (fun s_self h => t_Md_takeStretch_145 a_self a_least X hr hlk N f_self s_self v1 v2 h) N s_self 0 h
  · replace h := it_p c_1 h
    refine gd_aload_n X d_Md_takeStretch_58 0 rfl ?_
    refine gd_get X (ci := 7) (C := R_Md) (T := F_Md) (N := 36) (v := .ref (a_self 5)) 0 0 rfl rfl rfl (in_Md _) 9 (by decide) (List.mem_cons_of_mem _ fl_Md_22) rfl rfl d_Md_takeStretch_59 ?_
    refine gd_iload_n X d_Md_takeStretch_62 1 rfl ?_
    obtain ⟨hi_2, h⟩ := ck_e h
    refine gd_iald X 0 5 0 rfl rfl rfl hi_2 d_Md_takeStretch_63 ?_
    refine gd_if_ge X (tgt := 114) d_Md_takeStretch_64 (by decide) (fun c_3 => ?_) (fun c_3 => ?_)
    · replace h := it_p c_3 h
      refine gd_iconst X (v := 0) d_Md_takeStretch_114 (by decide) ?_
      refine gd_istore_n X (lv' := [(3, .int 0), (0, .ref (a_self 0)), (1, .int v1), (2, .int v2)]) d_Md_takeStretch_115 rfl (by decide) rfl ?_
      refine gd_loc (lv' := [(0, .ref (a_self 0)), (1, .int v1), (2, .int v2), (3, .int 0)]) [1, 2, 3, 0] rfl ?_
      exact tl_Md_takeStretch_116 a_self a_least X hr hlk N f_self v1 v2 (fun s_self => f_Md_takeStretch_145 N s_self v1 v2) (fun s_self h => t_Md_takeStretch_145 a_self a_least X hr hlk N f_self s_self v1 v2 h) N s_self 0 h
    · replace h := it_n c_3 h
      refine gd_aload_n X d_Md_takeStretch_67 0 rfl ?_
      refine gd_get X (ci := 7) (C := R_Md) (T := F_Md) (N := 36) (v := .ref (a_self 1)) 0 0 rfl rfl rfl (in_Md _) 3 (by decide) (List.mem_cons_of_mem _ fl_Md_7) rfl rfl d_Md_takeStretch_68 ?_
      refine gd_iconst X (v := (-1)) d_Md_takeStretch_71 (by decide) ?_
      refine gd_aload_n X d_Md_takeStretch_72 0 rfl ?_
      refine gd_get X (ci := 7) (C := R_Md) (T := F_Md) (N := 36) (v := .ref (a_self 5)) 0 0 rfl rfl rfl (in_Md _) 9 (by decide) (List.mem_cons_of_mem _ fl_Md_22) rfl rfl d_Md_takeStretch_73 ?_
      refine gd_iload_n X d_Md_takeStretch_76 1 rfl ?_
      obtain ⟨hi_4, h⟩ := ck_e h
      refine gd_iald X 0 5 0 rfl rfl rfl hi_4 d_Md_takeStretch_77 ?_
      refine gd_isub X d_Md_takeStretch_78 ?_
      obtain ⟨hi_5, h⟩ := ck_e h
      refine gd_iald X 0 1 0 rfl rfl rfl hi_5 d_Md_takeStretch_79 ?_
      obtain ⟨v3_6, ev3_6, h⟩ := nm_e' h
      refine gd_topi ev3_6 ?_
      refine gd_istore_n X (lv' := [(3, .int v3_6), (0, .ref (a_self 0)), (1, .int v1), (2, .int v2)]) d_Md_takeStretch_80 rfl (by decide) rfl ?_
      refine gd_aload_n X d_Md_takeStretch_81 1 rfl ?_
      refine gd_get X (ci := 7) (C := R_Md) (T := F_Md) (N := 36) (v := .ref (a_self 16)) 0 0 rfl rfl rfl (in_Md _) 27 (by decide) (List.mem_cons_of_mem _ fl_Md_60) rfl rfl d_Md_takeStretch_82 ?_
      refine gd_iload_n X d_Md_takeStretch_85 0 rfl ?_
      refine gd_iconst X (v := 1) d_Md_takeStretch_86 (by decide) ?_
      obtain ⟨hi_7, h⟩ := ck_e h
      obtain ⟨s_self_8, es_self_8, h⟩ := nm_e' h
      refine gd_iast X (w' := [wd_Md K a_self (a_least 0) s_self_8]) 0 16 0 rfl rfl rfl hi_7 d_Md_takeStretch_87 (by rw [es_self_8]; rfl) ?_
      refine gd_aload_n X d_Md_takeStretch_88 1 rfl ?_
      refine gd_iconst X (v := 0) d_Md_takeStretch_89 (by decide) ?_
      obtain ⟨s_self_9, es_self_9, h⟩ := nm_e' h
      refine gd_put X (ci := 7) (C := R_Md) (T := F_Md) (N := 36) (ty := .int) (w' := [wd_Md K a_self (a_least 0) s_self_9]) 0 0 rfl rfl rfl (in_Md _) t_Md t_Md_ok n_Md 19 (by decide) (List.mem_cons_of_mem _ fl_Md_119) rfl rfl (by decide +kernel) rfl rfl (Nat.le_of_ble_eq_true rfl) d_Md_takeStretch_90 (by rw [es_self_9]; rfl) ?_
      refine gd_aload_n X d_Md_takeStretch_93 1 rfl ?_
      refine gd_aload_n X d_Md_takeStretch_94 1 rfl ?_
      refine gd_get X (ci := 7) (C := R_Md) (T := F_Md) (N := 36) (v := .ref (a_self 5)) 0 0 rfl rfl rfl (in_Md _) 9 (by decide) (List.mem_cons_of_mem _ fl_Md_22) rfl rfl d_Md_takeStretch_95 ?_
      refine gd_iload_n X d_Md_takeStretch_98 2 rfl ?_
      obtain ⟨hi_10, h⟩ := ck_e h
      refine gd_iald X 0 5 0 rfl rfl rfl hi_10 d_Md_takeStretch_99 ?_
      obtain ⟨s_self_11, hc_12, h⟩ := bd1_e h
      refine gd_fv X (w1 := [wd_Md K a_self (a_least 0) s_self_11]) (gd_V X (As := [.int (s_self_9 5 (Int32.toNatClampNeg v1))]) (rest := []) (c_Md_add l D K a_self a_least s_self_9 (s_self_9 5 (Int32.toNatClampNeg v1)) s_self_11 hc_12) 1 (gi_V ml_Md_129 u_Md_add) rfl ⟨rfl, rfl⟩ (by decide +kernel) ⟨by decide, by decide⟩ (ci := 7) rfl rfl rfl rfl rfl rfl (Nat.le_of_ble_eq_true rfl) ⟨Nat.zero_le _, Nat.zero_le _⟩ d_Md_takeStretch_100) ?_
      refine gd_aload_n X d_Md_takeStretch_103 1 rfl ?_
      refine gd_iload_n X d_Md_takeStretch_104 0 rfl ?_
      refine gd_iload_n X d_Md_takeStretch_105 2 rfl ?_
      refine gd_iload_n X d_Md_takeStretch_106 3 rfl ?_
      obtain ⟨r_13, hc_14, h⟩ := bd1_e h
      refine gd_pI X (gd_Sc X (As := [.int v3_6, .int v1, .int v2]) (rest := [.ref (a_self 0)]) (c_Md_cellOf l D K v3_6 v1 v2 r_13 hc_14) 3 (gi_S ml_Md_138 u_Md_cellOf) rfl ⟨rfl, rfl⟩ (by decide +kernel) ⟨by decide, by decide⟩ rfl rfl (Nat.le_of_ble_eq_true rfl) ⟨Nat.zero_le _, Nat.zero_le _⟩ d_Md_takeStretch_107) [] rfl rfl ?_
      obtain ⟨r_15, s_self_16, hc_17, h⟩ := bd2_e h
      refine gd_fI X (w1 := [wd_Md K a_self (a_least 0) s_self_16]) (gd_V X (As := [.int r_13]) (rest := []) (c_Md_offer l D K a_self a_least N s_self_11 r_13 r_15 s_self_16 hc_17) 1 (gi_V ml_Md_158 u_Md_offer) rfl ⟨rfl, rfl⟩ (by decide +kernel) ⟨by decide, by decide⟩ (ci := 7) rfl rfl rfl rfl rfl rfl (Nat.le_of_ble_eq_true rfl) ⟨Nat.zero_le _, Nat.zero_le _⟩ d_Md_takeStretch_110) ?_
      refine gd_pop X d_Md_takeStretch_113 rfl ?_
      refine gd_iconst X (v := 0) d_Md_takeStretch_114 (by decide) ?_
      refine gd_istore_n X (lv' := [(3, .int 0), (0, .ref (a_self 0)), (1, .int v1), (2, .int v2)]) d_Md_takeStretch_115 rfl (by decide) rfl ?_
      refine gd_loc (lv' := [(0, .ref (a_self 0)), (1, .int v1), (2, .int v2), (3, .int 0)]) [1, 2, 3, 0] rfl ?_
      exact tl_Md_takeStretch_116 a_self a_least X hr hlk N f_self v1 v2 (fun s_self => f_Md_takeStretch_145 N s_self v1 v2) (fun s_self h => t_Md_takeStretch_145 a_self a_least X hr hlk N f_self s_self v1 v2 h) N s_self_16 0 h
def l_Md_takeStretch_2 (N : Nat) (v1 v2 : Int32) (kx51 : (Nat → Nat → Int32) → Option ((Nat → Nat → Int32))) : Nat → (Nat → Nat → Int32) → Int32 → Option ((Nat → Nat → Int32))
  | 0, _, _ => none
  | n + 1, s_self, v3 => f_Md_takeStretch_2 N (l_Md_takeStretch_2 N v1 v2 kx51 n) kx51 s_self v1 v2 v3
set_option maxHeartbeats 4000000 in
set_option maxRecDepth 100000 in
theorem tl_Md_takeStretch_2 {p : Program} {l : Launch} {e : Env} {s : State} {m : MethodId} {args : Array Value} {below : List Frame} {meth : Method} {c : Code} {A : Nat → Prop} {D : va_G} {K : Nat → ClassId} (a_self a_least : Nat → Nat) (X : gx p s m args c b_Md_takeStretch 7 R_Md w_Md_takeStretch D classes (tyK K) A) (hr : meth.sig.returnType = none) (hlk : meth.locks = false) (N : Nat) (f_self : Nat → Nat → Int32) (v1 v2 : Int32) (kx51 : (Nat → Nat → Int32) → Option ((Nat → Nat → Int32))) (hkx51 : ∀ (s_self : Nat → Nat → Int32), kx51 s_self = some f_self → Gd p l e rm_Md_takeStretch s m args below meth c 0 0 (MQ below (sq D classes (tyK K) none [wd_Md K a_self (a_least 0) f_self] A) args s 0 0 A) D classes A 7 51 [wd_Md K a_self (a_least 0) s_self] [(0, .ref (a_self 0)), (1, .int v1), (2, .int v2)] []) : ∀ (n : Nat) (s_self : Nat → Nat → Int32) (v3 : Int32), l_Md_takeStretch_2 N v1 v2 kx51 n s_self v3 = some f_self → Gd p l e rm_Md_takeStretch s m args below meth c 0 0 (MQ below (sq D classes (tyK K) none [wd_Md K a_self (a_least 0) f_self] A) args s 0 0 A) D classes A 7 2 [wd_Md K a_self (a_least 0) s_self] [(0, .ref (a_self 0)), (1, .int v1), (2, .int v2), (3, .int v3)] [] := by
  intro n
  induction n with
  | zero => intro s_self v3 h; have h : (none : Option ((Nat → Nat → Int32))) = some _ := h; cases h
  | succ n ih =>
    intro s_self v3 h
    exact t_Md_takeStretch_2 a_self a_least X hr hlk N f_self s_self v1 v2 v3 (l_Md_takeStretch_2 N v1 v2 kx51 n) ih kx51 hkx51 h
def f_Md_takeStretch_0 (N : Nat) (s_self : Nat → Nat → Int32) (v1 v2 : Int32) : Option ((Nat → Nat → Int32)) :=
  l_Md_takeStretch_2 N v1 v2 (fun s_self => f_Md_takeStretch_51 N s_self v1 v2) N s_self 0
set_option maxHeartbeats 4000000 in
set_option maxRecDepth 100000 in
theorem t_Md_takeStretch_0 {p : Program} {l : Launch} {e : Env} {s : State} {m : MethodId} {args : Array Value} {below : List Frame} {meth : Method} {c : Code} {A : Nat → Prop} {D : va_G} {K : Nat → ClassId} (a_self a_least : Nat → Nat) (X : gx p s m args c b_Md_takeStretch 7 R_Md w_Md_takeStretch D classes (tyK K) A) (hr : meth.sig.returnType = none) (hlk : meth.locks = false) (N : Nat) (f_self : Nat → Nat → Int32) (s_self : Nat → Nat → Int32) (v1 v2 : Int32) (h : f_Md_takeStretch_0 N s_self v1 v2 = some f_self) : Gd p l e rm_Md_takeStretch s m args below meth c 0 0 (MQ below (sq D classes (tyK K) none [wd_Md K a_self (a_least 0) f_self] A) args s 0 0 A) D classes A 7 0 [wd_Md K a_self (a_least 0) s_self] [(0, .ref (a_self 0)), (1, .int v1), (2, .int v2)] [] := by
  unfold f_Md_takeStretch_0 at h
  refine gd_iconst X (v := 0) d_Md_takeStretch_0 (by decide) ?_
  refine gd_istore_n X (lv' := [(3, .int 0), (0, .ref (a_self 0)), (1, .int v1), (2, .int v2)]) d_Md_takeStretch_1 rfl (by decide) rfl ?_
  refine gd_loc (lv' := [(0, .ref (a_self 0)), (1, .int v1), (2, .int v2), (3, .int 0)]) [1, 2, 3, 0] rfl ?_
  exact tl_Md_takeStretch_2 a_self a_least X hr hlk N f_self v1 v2 (fun s_self => f_Md_takeStretch_51 N s_self v1 v2) (fun s_self h => t_Md_takeStretch_51 a_self a_least X hr hlk N f_self s_self v1 v2 h) N s_self 0 h
def m_Md_takeStretch (N : Nat) (s_self : Nat → Nat → Int32) (v1 v2 : Int32) : Option ((Nat → Nat → Int32)) := f_Md_takeStretch_0 N s_self v1 v2
set_option maxHeartbeats 4000000 in
set_option maxRecDepth 100000 in
theorem c_Md_takeStretch (l : Launch) (D : va_G) (K : Nat → ClassId) (a_self a_least : Nat → Nat) (N : Nat) (s_self : Nat → Nat → Int32) (v1 v2 : Int32) (f_self : Nat → Nat → Int32) (h : m_Md_takeStretch N s_self v1 v2 = some f_self) : SMet l y_Md_takeStretch w_Md_takeStretch rm_Md_takeStretch D classes (tyK K) [.ref (a_self 0), .int v1, .int v2] none [wd_Md K a_self (a_least 0) s_self] [wd_Md K a_self (a_least 0) f_self] := by
  refine sm_of R_Md (by decide) rfl rfl (Nat.le_of_ble_eq_true rfl) ?_
  intro p e s m below meth c A X hr hlk
  refine gd_loc (lv' := [(0, .ref (a_self 0)), (1, .int v1), (2, .int v2)]) [0, 1, 2] rfl ?_
  exact t_Md_takeStretch_0 a_self a_least X hr hlk N f_self s_self v1 v2 h
