abbrev b_Md_takeRule : ByteArray := prog_10_method_26_code
def y_Md_takeRule : MethodName := ⟨R_Md, "takeRule", "(III)V"⟩
def w_Md_takeRule : List Cond := .code y_Md_takeRule b_Md_takeRule 8 none :: TB
theorem k_Md_takeRule : Cond.code y_Md_takeRule b_Md_takeRule 8 none ∈ TB := tb_of 913 (by decide +kernel) (by decide +kernel)
theorem d_Md_takeRule_0 : decode b_Md_takeRule 0 = .ok (.aload_n 0, 1) := by decide +kernel
theorem d_Md_takeRule_1 : decode b_Md_takeRule 1 = .ok (.aload_n 0, 1) := by decide +kernel
theorem d_Md_takeRule_2 : decode b_Md_takeRule 2 = .ok (.iload_n 1, 1) := by decide +kernel
theorem d_Md_takeRule_3 : decode b_Md_takeRule 3 = .ok (.invokevirtual 112, 3) := by decide +kernel
theorem d_Md_takeRule_6 : decode b_Md_takeRule 6 = .ok (.putfield 135, 3) := by decide +kernel
theorem d_Md_takeRule_9 : decode b_Md_takeRule 9 = .ok (.aload_n 0, 1) := by decide +kernel
theorem d_Md_takeRule_10 : decode b_Md_takeRule 10 = .ok (.iconst 0, 1) := by decide +kernel
theorem d_Md_takeRule_11 : decode b_Md_takeRule 11 = .ok (.putfield 142, 3) := by decide +kernel
theorem d_Md_takeRule_14 : decode b_Md_takeRule 14 = .ok (.iconst 0, 1) := by decide +kernel
theorem d_Md_takeRule_15 : decode b_Md_takeRule 15 = .ok (.istore 4, 2) := by decide +kernel
theorem d_Md_takeRule_17 : decode b_Md_takeRule 17 = .ok (.iload 4, 2) := by decide +kernel
theorem d_Md_takeRule_19 : decode b_Md_takeRule 19 = .ok (.aload_n 0, 1) := by decide +kernel
theorem d_Md_takeRule_20 : decode b_Md_takeRule 20 = .ok (.getfield 135, 3) := by decide +kernel
theorem d_Md_takeRule_23 : decode b_Md_takeRule 23 = .ok (.if_icmp .ge 118, 3) := by decide +kernel
theorem d_Md_takeRule_26 : decode b_Md_takeRule 26 = .ok (.aload_n 0, 1) := by decide +kernel
theorem d_Md_takeRule_27 : decode b_Md_takeRule 27 = .ok (.getfield 54, 3) := by decide +kernel
theorem d_Md_takeRule_30 : decode b_Md_takeRule 30 = .ok (.iload 4, 2) := by decide +kernel
theorem d_Md_takeRule_32 : decode b_Md_takeRule 32 = .ok (.aload_n 0, 1) := by decide +kernel
theorem d_Md_takeRule_33 : decode b_Md_takeRule 33 = .ok (.iload_n 1, 1) := by decide +kernel
theorem d_Md_takeRule_34 : decode b_Md_takeRule 34 = .ok (.iload 4, 2) := by decide +kernel
theorem d_Md_takeRule_36 : decode b_Md_takeRule 36 = .ok (.invokevirtual 161, 3) := by decide +kernel
theorem d_Md_takeRule_39 : decode b_Md_takeRule 39 = .ok (.iastore, 1) := by decide +kernel
theorem d_Md_takeRule_40 : decode b_Md_takeRule 40 = .ok (.aload_n 0, 1) := by decide +kernel
theorem d_Md_takeRule_41 : decode b_Md_takeRule 41 = .ok (.getfield 57, 3) := by decide +kernel
theorem d_Md_takeRule_44 : decode b_Md_takeRule 44 = .ok (.iload 4, 2) := by decide +kernel
theorem d_Md_takeRule_46 : decode b_Md_takeRule 46 = .ok (.iload 4, 2) := by decide +kernel
theorem d_Md_takeRule_48 : decode b_Md_takeRule 48 = .ok (.iastore, 1) := by decide +kernel
theorem d_Md_takeRule_49 : decode b_Md_takeRule 49 = .ok (.iload 4, 2) := by decide +kernel
theorem d_Md_takeRule_51 : decode b_Md_takeRule 51 = .ok (.iconst 1, 1) := by decide +kernel
theorem d_Md_takeRule_52 : decode b_Md_takeRule 52 = .ok (.isub, 1) := by decide +kernel
theorem d_Md_takeRule_53 : decode b_Md_takeRule 53 = .ok (.istore 5, 2) := by decide +kernel
theorem d_Md_takeRule_55 : decode b_Md_takeRule 55 = .ok (.iload 5, 2) := by decide +kernel
theorem d_Md_takeRule_57 : decode b_Md_takeRule 57 = .ok (.ifCond .lt 45, 3) := by decide +kernel
theorem d_Md_takeRule_60 : decode b_Md_takeRule 60 = .ok (.aload_n 0, 1) := by decide +kernel
theorem d_Md_takeRule_61 : decode b_Md_takeRule 61 = .ok (.getfield 57, 3) := by decide +kernel
theorem d_Md_takeRule_64 : decode b_Md_takeRule 64 = .ok (.iload 4, 2) := by decide +kernel
theorem d_Md_takeRule_66 : decode b_Md_takeRule 66 = .ok (.aload_n 0, 1) := by decide +kernel
theorem d_Md_takeRule_67 : decode b_Md_takeRule 67 = .ok (.getfield 54, 3) := by decide +kernel
theorem d_Md_takeRule_70 : decode b_Md_takeRule 70 = .ok (.iload 5, 2) := by decide +kernel
theorem d_Md_takeRule_72 : decode b_Md_takeRule 72 = .ok (.iaload, 1) := by decide +kernel
theorem d_Md_takeRule_73 : decode b_Md_takeRule 73 = .ok (.aload_n 0, 1) := by decide +kernel
theorem d_Md_takeRule_74 : decode b_Md_takeRule 74 = .ok (.getfield 54, 3) := by decide +kernel
theorem d_Md_takeRule_77 : decode b_Md_takeRule 77 = .ok (.iload 4, 2) := by decide +kernel
theorem d_Md_takeRule_79 : decode b_Md_takeRule 79 = .ok (.iaload, 1) := by decide +kernel
theorem d_Md_takeRule_80 : decode b_Md_takeRule 80 = .ok (.if_icmp .ne 8, 3) := by decide +kernel
theorem d_Md_takeRule_83 : decode b_Md_takeRule 83 = .ok (.iload 5, 2) := by decide +kernel
theorem d_Md_takeRule_85 : decode b_Md_takeRule 85 = .ok (.goto 10, 3) := by decide +kernel
theorem d_Md_takeRule_88 : decode b_Md_takeRule 88 = .ok (.aload_n 0, 1) := by decide +kernel
theorem d_Md_takeRule_89 : decode b_Md_takeRule 89 = .ok (.getfield 57, 3) := by decide +kernel
theorem d_Md_takeRule_92 : decode b_Md_takeRule 92 = .ok (.iload 4, 2) := by decide +kernel
theorem d_Md_takeRule_94 : decode b_Md_takeRule 94 = .ok (.iaload, 1) := by decide +kernel
theorem d_Md_takeRule_95 : decode b_Md_takeRule 95 = .ok (.iastore, 1) := by decide +kernel
theorem d_Md_takeRule_96 : decode b_Md_takeRule 96 = .ok (.iinc 5 (-1), 3) := by decide +kernel
theorem d_Md_takeRule_99 : decode b_Md_takeRule 99 = .ok (.goto (-44), 3) := by decide +kernel
theorem d_Md_takeRule_102 : decode b_Md_takeRule 102 = .ok (.aload_n 0, 1) := by decide +kernel
theorem d_Md_takeRule_103 : decode b_Md_takeRule 103 = .ok (.getfield 57, 3) := by decide +kernel
theorem d_Md_takeRule_106 : decode b_Md_takeRule 106 = .ok (.iload 4, 2) := by decide +kernel
theorem d_Md_takeRule_108 : decode b_Md_takeRule 108 = .ok (.iaload, 1) := by decide +kernel
theorem d_Md_takeRule_109 : decode b_Md_takeRule 109 = .ok (.iload 4, 2) := by decide +kernel
theorem d_Md_takeRule_111 : decode b_Md_takeRule 111 = .ok (.if_icmp .ne 24, 3) := by decide +kernel
theorem d_Md_takeRule_114 : decode b_Md_takeRule 114 = .ok (.aload_n 0, 1) := by decide +kernel
theorem d_Md_takeRule_115 : decode b_Md_takeRule 115 = .ok (.getfield 51, 3) := by decide +kernel
theorem d_Md_takeRule_118 : decode b_Md_takeRule 118 = .ok (.aload_n 0, 1) := by decide +kernel
theorem d_Md_takeRule_119 : decode b_Md_takeRule 119 = .ok (.getfield 142, 3) := by decide +kernel
theorem d_Md_takeRule_122 : decode b_Md_takeRule 122 = .ok (.iload 4, 2) := by decide +kernel
theorem d_Md_takeRule_124 : decode b_Md_takeRule 124 = .ok (.iastore, 1) := by decide +kernel
theorem d_Md_takeRule_125 : decode b_Md_takeRule 125 = .ok (.aload_n 0, 1) := by decide +kernel
theorem d_Md_takeRule_126 : decode b_Md_takeRule 126 = .ok (.dup, 1) := by decide +kernel
theorem d_Md_takeRule_127 : decode b_Md_takeRule 127 = .ok (.getfield 142, 3) := by decide +kernel
theorem d_Md_takeRule_130 : decode b_Md_takeRule 130 = .ok (.iconst 1, 1) := by decide +kernel
theorem d_Md_takeRule_131 : decode b_Md_takeRule 131 = .ok (.iadd, 1) := by decide +kernel
theorem d_Md_takeRule_132 : decode b_Md_takeRule 132 = .ok (.putfield 142, 3) := by decide +kernel
theorem d_Md_takeRule_135 : decode b_Md_takeRule 135 = .ok (.iinc 4 1, 3) := by decide +kernel
theorem d_Md_takeRule_138 : decode b_Md_takeRule 138 = .ok (.goto (-121), 3) := by decide +kernel
theorem d_Md_takeRule_141 : decode b_Md_takeRule 141 = .ok (.iload_n 3, 1) := by decide +kernel
theorem d_Md_takeRule_142 : decode b_Md_takeRule 142 = .ok (.iload_n 2, 1) := by decide +kernel
theorem d_Md_takeRule_143 : decode b_Md_takeRule 143 = .ok (.isub, 1) := by decide +kernel
theorem d_Md_takeRule_144 : decode b_Md_takeRule 144 = .ok (.aload_n 0, 1) := by decide +kernel
theorem d_Md_takeRule_145 : decode b_Md_takeRule 145 = .ok (.getfield 16, 3) := by decide +kernel
theorem d_Md_takeRule_148 : decode b_Md_takeRule 148 = .ok (.iload_n 1, 1) := by decide +kernel
theorem d_Md_takeRule_149 : decode b_Md_takeRule 149 = .ok (.iaload, 1) := by decide +kernel
theorem d_Md_takeRule_150 : decode b_Md_takeRule 150 = .ok (.aload_n 0, 1) := by decide +kernel
theorem d_Md_takeRule_151 : decode b_Md_takeRule 151 = .ok (.getfield 135, 3) := by decide +kernel
theorem d_Md_takeRule_154 : decode b_Md_takeRule 154 = .ok (.isub, 1) := by decide +kernel
theorem d_Md_takeRule_155 : decode b_Md_takeRule 155 = .ok (.isub, 1) := by decide +kernel
theorem d_Md_takeRule_156 : decode b_Md_takeRule 156 = .ok (.istore 4, 2) := by decide +kernel
theorem d_Md_takeRule_158 : decode b_Md_takeRule 158 = .ok (.iload 4, 2) := by decide +kernel
theorem d_Md_takeRule_160 : decode b_Md_takeRule 160 = .ok (.aload_n 0, 1) := by decide +kernel
theorem d_Md_takeRule_161 : decode b_Md_takeRule 161 = .ok (.getfield 135, 3) := by decide +kernel
theorem d_Md_takeRule_164 : decode b_Md_takeRule 164 = .ok (.if_icmp .lt 15, 3) := by decide +kernel
theorem d_Md_takeRule_167 : decode b_Md_takeRule 167 = .ok (.aload_n 0, 1) := by decide +kernel
theorem d_Md_takeRule_168 : decode b_Md_takeRule 168 = .ok (.getfield 135, 3) := by decide +kernel
theorem d_Md_takeRule_171 : decode b_Md_takeRule 171 = .ok (.ifCond .ne 9, 3) := by decide +kernel
theorem d_Md_takeRule_174 : decode b_Md_takeRule 174 = .ok (.iload 4, 2) := by decide +kernel
theorem d_Md_takeRule_176 : decode b_Md_takeRule 176 = .ok (.ifCond .le 4, 3) := by decide +kernel
theorem d_Md_takeRule_179 : decode b_Md_takeRule 179 = .ok (.return_, 1) := by decide +kernel
theorem d_Md_takeRule_180 : decode b_Md_takeRule 180 = .ok (.iconst 0, 1) := by decide +kernel
theorem d_Md_takeRule_181 : decode b_Md_takeRule 181 = .ok (.istore 5, 2) := by decide +kernel
theorem d_Md_takeRule_183 : decode b_Md_takeRule 183 = .ok (.iload 5, 2) := by decide +kernel
theorem d_Md_takeRule_185 : decode b_Md_takeRule 185 = .ok (.aload_n 0, 1) := by decide +kernel
theorem d_Md_takeRule_186 : decode b_Md_takeRule 186 = .ok (.getfield 135, 3) := by decide +kernel
theorem d_Md_takeRule_189 : decode b_Md_takeRule 189 = .ok (.if_icmp .ge 17, 3) := by decide +kernel
theorem d_Md_takeRule_192 : decode b_Md_takeRule 192 = .ok (.aload_n 0, 1) := by decide +kernel
theorem d_Md_takeRule_193 : decode b_Md_takeRule 193 = .ok (.getfield 45, 3) := by decide +kernel
theorem d_Md_takeRule_196 : decode b_Md_takeRule 196 = .ok (.iload 5, 2) := by decide +kernel
theorem d_Md_takeRule_198 : decode b_Md_takeRule 198 = .ok (.iconst 1, 1) := by decide +kernel
theorem d_Md_takeRule_199 : decode b_Md_takeRule 199 = .ok (.iastore, 1) := by decide +kernel
theorem d_Md_takeRule_200 : decode b_Md_takeRule 200 = .ok (.iinc 5 1, 3) := by decide +kernel
theorem d_Md_takeRule_203 : decode b_Md_takeRule 203 = .ok (.goto (-20), 3) := by decide +kernel
theorem d_Md_takeRule_206 : decode b_Md_takeRule 206 = .ok (.iconst 1, 1) := by decide +kernel
theorem d_Md_takeRule_207 : decode b_Md_takeRule 207 = .ok (.istore 5, 2) := by decide +kernel
theorem d_Md_takeRule_209 : decode b_Md_takeRule 209 = .ok (.iload 5, 2) := by decide +kernel
theorem d_Md_takeRule_211 : decode b_Md_takeRule 211 = .ok (.ifCond .eq 169, 3) := by decide +kernel
theorem d_Md_takeRule_214 : decode b_Md_takeRule 214 = .ok (.iconst 0, 1) := by decide +kernel
theorem d_Md_takeRule_215 : decode b_Md_takeRule 215 = .ok (.istore 6, 2) := by decide +kernel
theorem d_Md_takeRule_217 : decode b_Md_takeRule 217 = .ok (.iconst 0, 1) := by decide +kernel
theorem d_Md_takeRule_218 : decode b_Md_takeRule 218 = .ok (.istore 7, 2) := by decide +kernel
theorem d_Md_takeRule_220 : decode b_Md_takeRule 220 = .ok (.iload 7, 2) := by decide +kernel
theorem d_Md_takeRule_222 : decode b_Md_takeRule 222 = .ok (.iconst 1, 1) := by decide +kernel
theorem d_Md_takeRule_223 : decode b_Md_takeRule 223 = .ok (.iadd, 1) := by decide +kernel
theorem d_Md_takeRule_224 : decode b_Md_takeRule 224 = .ok (.aload_n 0, 1) := by decide +kernel
theorem d_Md_takeRule_225 : decode b_Md_takeRule 225 = .ok (.getfield 135, 3) := by decide +kernel
theorem d_Md_takeRule_228 : decode b_Md_takeRule 228 = .ok (.if_icmp .ge 21, 3) := by decide +kernel
theorem d_Md_takeRule_231 : decode b_Md_takeRule 231 = .ok (.iload 6, 2) := by decide +kernel
theorem d_Md_takeRule_233 : decode b_Md_takeRule 233 = .ok (.aload_n 0, 1) := by decide +kernel
theorem d_Md_takeRule_234 : decode b_Md_takeRule 234 = .ok (.getfield 45, 3) := by decide +kernel
theorem d_Md_takeRule_237 : decode b_Md_takeRule 237 = .ok (.iload 7, 2) := by decide +kernel
theorem d_Md_takeRule_239 : decode b_Md_takeRule 239 = .ok (.iaload, 1) := by decide +kernel
theorem d_Md_takeRule_240 : decode b_Md_takeRule 240 = .ok (.iadd, 1) := by decide +kernel
theorem d_Md_takeRule_241 : decode b_Md_takeRule 241 = .ok (.istore 6, 2) := by decide +kernel
theorem d_Md_takeRule_243 : decode b_Md_takeRule 243 = .ok (.iinc 7 1, 3) := by decide +kernel
theorem d_Md_takeRule_246 : decode b_Md_takeRule 246 = .ok (.goto (-26), 3) := by decide +kernel
theorem d_Md_takeRule_249 : decode b_Md_takeRule 249 = .ok (.aload_n 0, 1) := by decide +kernel
theorem d_Md_takeRule_250 : decode b_Md_takeRule 250 = .ok (.getfield 135, 3) := by decide +kernel
theorem d_Md_takeRule_253 : decode b_Md_takeRule 253 = .ok (.ifCond .le 19, 3) := by decide +kernel
theorem d_Md_takeRule_256 : decode b_Md_takeRule 256 = .ok (.aload_n 0, 1) := by decide +kernel
theorem d_Md_takeRule_257 : decode b_Md_takeRule 257 = .ok (.getfield 45, 3) := by decide +kernel
theorem d_Md_takeRule_260 : decode b_Md_takeRule 260 = .ok (.aload_n 0, 1) := by decide +kernel
theorem d_Md_takeRule_261 : decode b_Md_takeRule 261 = .ok (.getfield 135, 3) := by decide +kernel
theorem d_Md_takeRule_264 : decode b_Md_takeRule 264 = .ok (.iconst 1, 1) := by decide +kernel
theorem d_Md_takeRule_265 : decode b_Md_takeRule 265 = .ok (.isub, 1) := by decide +kernel
theorem d_Md_takeRule_266 : decode b_Md_takeRule 266 = .ok (.iload 4, 2) := by decide +kernel
theorem d_Md_takeRule_268 : decode b_Md_takeRule 268 = .ok (.iload 6, 2) := by decide +kernel
theorem d_Md_takeRule_270 : decode b_Md_takeRule 270 = .ok (.isub, 1) := by decide +kernel
theorem d_Md_takeRule_271 : decode b_Md_takeRule 271 = .ok (.iastore, 1) := by decide +kernel
theorem d_Md_takeRule_272 : decode b_Md_takeRule 272 = .ok (.aload_n 0, 1) := by decide +kernel
theorem d_Md_takeRule_273 : decode b_Md_takeRule 273 = .ok (.getfield 135, 3) := by decide +kernel
theorem d_Md_takeRule_276 : decode b_Md_takeRule 276 = .ok (.ifCond .eq 10, 3) := by decide +kernel
theorem d_Md_takeRule_279 : decode b_Md_takeRule 279 = .ok (.iload 4, 2) := by decide +kernel
theorem d_Md_takeRule_281 : decode b_Md_takeRule 281 = .ok (.iload 6, 2) := by decide +kernel
theorem d_Md_takeRule_283 : decode b_Md_takeRule 283 = .ok (.if_icmp .le 20, 3) := by decide +kernel
theorem d_Md_takeRule_286 : decode b_Md_takeRule 286 = .ok (.aload_n 0, 1) := by decide +kernel
theorem d_Md_takeRule_287 : decode b_Md_takeRule 287 = .ok (.iload_n 1, 1) := by decide +kernel
theorem d_Md_takeRule_288 : decode b_Md_takeRule 288 = .ok (.iload_n 2, 1) := by decide +kernel
theorem d_Md_takeRule_289 : decode b_Md_takeRule 289 = .ok (.iload_n 3, 1) := by decide +kernel
theorem d_Md_takeRule_290 : decode b_Md_takeRule 290 = .ok (.invokevirtual 164, 3) := by decide +kernel
theorem d_Md_takeRule_293 : decode b_Md_takeRule 293 = .ok (.ifCond .eq 10, 3) := by decide +kernel
theorem d_Md_takeRule_296 : decode b_Md_takeRule 296 = .ok (.aload_n 0, 1) := by decide +kernel
theorem d_Md_takeRule_297 : decode b_Md_takeRule 297 = .ok (.iload_n 1, 1) := by decide +kernel
theorem d_Md_takeRule_298 : decode b_Md_takeRule 298 = .ok (.iload_n 2, 1) := by decide +kernel
theorem d_Md_takeRule_299 : decode b_Md_takeRule 299 = .ok (.iload_n 3, 1) := by decide +kernel
theorem d_Md_takeRule_300 : decode b_Md_takeRule 300 = .ok (.invokevirtual 168, 3) := by decide +kernel
theorem d_Md_takeRule_303 : decode b_Md_takeRule 303 = .ok (.iconst 0, 1) := by decide +kernel
theorem d_Md_takeRule_304 : decode b_Md_takeRule 304 = .ok (.istore 7, 2) := by decide +kernel
theorem d_Md_takeRule_306 : decode b_Md_takeRule 306 = .ok (.iload 7, 2) := by decide +kernel
theorem d_Md_takeRule_308 : decode b_Md_takeRule 308 = .ok (.iconst 1, 1) := by decide +kernel
theorem d_Md_takeRule_309 : decode b_Md_takeRule 309 = .ok (.iadd, 1) := by decide +kernel
theorem d_Md_takeRule_310 : decode b_Md_takeRule 310 = .ok (.aload_n 0, 1) := by decide +kernel
theorem d_Md_takeRule_311 : decode b_Md_takeRule 311 = .ok (.getfield 135, 3) := by decide +kernel
theorem d_Md_takeRule_314 : decode b_Md_takeRule 314 = .ok (.if_icmp .ge 29, 3) := by decide +kernel
theorem d_Md_takeRule_317 : decode b_Md_takeRule 317 = .ok (.aload_n 0, 1) := by decide +kernel
theorem d_Md_takeRule_318 : decode b_Md_takeRule 318 = .ok (.getfield 45, 3) := by decide +kernel
theorem d_Md_takeRule_321 : decode b_Md_takeRule 321 = .ok (.iload 7, 2) := by decide +kernel
theorem d_Md_takeRule_323 : decode b_Md_takeRule 323 = .ok (.iaload, 1) := by decide +kernel
theorem d_Md_takeRule_324 : decode b_Md_takeRule 324 = .ok (.iload 4, 2) := by decide +kernel
theorem d_Md_takeRule_326 : decode b_Md_takeRule 326 = .ok (.if_icmp .ne 17, 3) := by decide +kernel
theorem d_Md_takeRule_329 : decode b_Md_takeRule 329 = .ok (.aload_n 0, 1) := by decide +kernel
theorem d_Md_takeRule_330 : decode b_Md_takeRule 330 = .ok (.getfield 45, 3) := by decide +kernel
theorem d_Md_takeRule_333 : decode b_Md_takeRule 333 = .ok (.iload 7, 2) := by decide +kernel
theorem d_Md_takeRule_335 : decode b_Md_takeRule 335 = .ok (.iconst 1, 1) := by decide +kernel
theorem d_Md_takeRule_336 : decode b_Md_takeRule 336 = .ok (.iastore, 1) := by decide +kernel
theorem d_Md_takeRule_337 : decode b_Md_takeRule 337 = .ok (.iinc 7 1, 3) := by decide +kernel
theorem d_Md_takeRule_340 : decode b_Md_takeRule 340 = .ok (.goto (-34), 3) := by decide +kernel
theorem d_Md_takeRule_343 : decode b_Md_takeRule 343 = .ok (.iload 7, 2) := by decide +kernel
theorem d_Md_takeRule_345 : decode b_Md_takeRule 345 = .ok (.iconst 1, 1) := by decide +kernel
theorem d_Md_takeRule_346 : decode b_Md_takeRule 346 = .ok (.iadd, 1) := by decide +kernel
theorem d_Md_takeRule_347 : decode b_Md_takeRule 347 = .ok (.aload_n 0, 1) := by decide +kernel
theorem d_Md_takeRule_348 : decode b_Md_takeRule 348 = .ok (.getfield 135, 3) := by decide +kernel
theorem d_Md_takeRule_351 : decode b_Md_takeRule 351 = .ok (.if_icmp .ge 7, 3) := by decide +kernel
theorem d_Md_takeRule_354 : decode b_Md_takeRule 354 = .ok (.iconst 1, 1) := by decide +kernel
theorem d_Md_takeRule_355 : decode b_Md_takeRule 355 = .ok (.goto 4, 3) := by decide +kernel
theorem d_Md_takeRule_358 : decode b_Md_takeRule 358 = .ok (.iconst 0, 1) := by decide +kernel
theorem d_Md_takeRule_359 : decode b_Md_takeRule 359 = .ok (.istore 5, 2) := by decide +kernel
theorem d_Md_takeRule_361 : decode b_Md_takeRule 361 = .ok (.iload 5, 2) := by decide +kernel
theorem d_Md_takeRule_363 : decode b_Md_takeRule 363 = .ok (.ifCond .eq 14, 3) := by decide +kernel
theorem d_Md_takeRule_366 : decode b_Md_takeRule 366 = .ok (.aload_n 0, 1) := by decide +kernel
theorem d_Md_takeRule_367 : decode b_Md_takeRule 367 = .ok (.getfield 45, 3) := by decide +kernel
theorem d_Md_takeRule_370 : decode b_Md_takeRule 370 = .ok (.iload 7, 2) := by decide +kernel
theorem d_Md_takeRule_372 : decode b_Md_takeRule 372 = .ok (.dup2, 1) := by decide +kernel
theorem d_Md_takeRule_373 : decode b_Md_takeRule 373 = .ok (.iaload, 1) := by decide +kernel
theorem d_Md_takeRule_374 : decode b_Md_takeRule 374 = .ok (.iconst 1, 1) := by decide +kernel
theorem d_Md_takeRule_375 : decode b_Md_takeRule 375 = .ok (.iadd, 1) := by decide +kernel
theorem d_Md_takeRule_376 : decode b_Md_takeRule 376 = .ok (.iastore, 1) := by decide +kernel
theorem d_Md_takeRule_377 : decode b_Md_takeRule 377 = .ok (.goto (-168), 3) := by decide +kernel
theorem d_Md_takeRule_380 : decode b_Md_takeRule 380 = .ok (.return_, 1) := by decide +kernel
theorem ml_Md_161 : Cond.methodLink R_Md 161 ⟨"RuleTreesModel", "variableAt", "(II)I"⟩ ∈ TB := tb_of 914 (by decide +kernel) (by decide +kernel)
theorem u_Md_variableAt : (Cond.instanceMethod y_Md_variableAt ∈ TB ∧ Cond.selects R_Md y_Md_variableAt y_Md_variableAt ∈ TB) ∧ Cond.initialized R_Md ∈ TB ∧ Cond.code y_Md_variableAt b_Md_variableAt 6 (some .int) ∈ TB := ⟨⟨(tb_of 916 (by decide +kernel) (by decide +kernel)), (tb_of 47 (by decide +kernel) (by decide +kernel))⟩, (tb_of 70 (by decide +kernel) (by decide +kernel)), k_Md_variableAt⟩
theorem ml_Md_164 : Cond.methodLink R_Md 164 ⟨"RuleTreesModel", "comesUpon", "(III)Z"⟩ ∈ TB := tb_of 918 (by decide +kernel) (by decide +kernel)
theorem u_Md_comesUpon : (Cond.instanceMethod y_Md_comesUpon ∈ TB ∧ Cond.selects R_Md y_Md_comesUpon y_Md_comesUpon ∈ TB) ∧ Cond.initialized R_Md ∈ TB ∧ Cond.code y_Md_comesUpon b_Md_comesUpon 10 (some .boolean) ∈ TB := ⟨⟨(tb_of 920 (by decide +kernel) (by decide +kernel)), (tb_of 48 (by decide +kernel) (by decide +kernel))⟩, (tb_of 70 (by decide +kernel) (by decide +kernel)), k_Md_comesUpon⟩
theorem ml_Md_168 : Cond.methodLink R_Md 168 ⟨"RuleTreesModel", "takeWay", "(III)V"⟩ ∈ TB := tb_of 922 (by decide +kernel) (by decide +kernel)
theorem u_Md_takeWay : (Cond.instanceMethod y_Md_takeWay ∈ TB ∧ Cond.selects R_Md y_Md_takeWay y_Md_takeWay ∈ TB) ∧ Cond.initialized R_Md ∈ TB ∧ Cond.code y_Md_takeWay b_Md_takeWay 8 none ∈ TB := ⟨⟨(tb_of 924 (by decide +kernel) (by decide +kernel)), (tb_of 49 (by decide +kernel) (by decide +kernel))⟩, (tb_of 70 (by decide +kernel) (by decide +kernel)), k_Md_takeWay⟩
abbrev rm_Md_takeRule : Room := { frames := 3, cells := 0, slots := 0, locals := 77 }
def f_Md_takeRule_55 (N : Nat) (kb : (Nat → Nat → Int32) → Int32 → Option ((Nat → Nat → Int32))) (kx102 : (Nat → Nat → Int32) → Option ((Nat → Nat → Int32))) (s_self : Nat → Nat → Int32) (v1 v2 v3 v4 v5 : Int32) : Option ((Nat → Nat → Int32)) :=
  if v5 < 0 then
    kx102 s_self
  else
    ck v5 4 <|
    ck v4 4 <|
    if (s_self 14 (Int32.toNatClampNeg v5)) = (s_self 14 (Int32.toNatClampNeg v4)) then
      ck v4 4 <| nm (st2 s_self 15 (Int32.toNatClampNeg v4) v5) fun s_self_10 =>
      nm (v5 + (-1)) fun v5_11 =>
      kb s_self_10 v5_11
    else
      ck v4 4 <|
      ck v4 4 <| nm (st2 s_self 15 (Int32.toNatClampNeg v4) (s_self 15 (Int32.toNatClampNeg v4))) fun s_self_7 =>
      nm (v5 + (-1)) fun v5_8 =>
      kb s_self_7 v5_8
set_option maxHeartbeats 4000000 in
set_option maxRecDepth 100000 in
theorem t_Md_takeRule_55 {p : Program} {l : Launch} {e : Env} {s : State} {m : MethodId} {args : Array Value} {below : List Frame} {meth : Method} {c : Code} {A : Nat → Prop} {D : va_G} {K : Nat → ClassId} (a_self a_least : Nat → Nat) (X : gx p s m args c b_Md_takeRule 8 R_Md w_Md_takeRule D classes (tyK K) A) (hr : meth.sig.returnType = none) (hlk : meth.locks = false) (N : Nat) (f_self : Nat → Nat → Int32) (s_self : Nat → Nat → Int32) (v1 v2 v3 v4 v5 : Int32) (kb : (Nat → Nat → Int32) → Int32 → Option ((Nat → Nat → Int32))) (hkb : ∀ (s_self : Nat → Nat → Int32) (v5 : Int32), kb s_self v5 = some f_self → Gd p l e rm_Md_takeRule s m args below meth c 0 0 (MQ below (sq D classes (tyK K) none [wd_Md K a_self (a_least 0) f_self] A) args s 0 0 A) D classes A 8 55 [wd_Md K a_self (a_least 0) s_self] [(0, .ref (a_self 0)), (1, .int v1), (2, .int v2), (3, .int v3), (4, .int v4), (5, .int v5)] []) (kx102 : (Nat → Nat → Int32) → Option ((Nat → Nat → Int32))) (hkx102 : ∀ (s_self : Nat → Nat → Int32), kx102 s_self = some f_self → Gd p l e rm_Md_takeRule s m args below meth c 0 0 (MQ below (sq D classes (tyK K) none [wd_Md K a_self (a_least 0) f_self] A) args s 0 0 A) D classes A 8 102 [wd_Md K a_self (a_least 0) s_self] [(0, .ref (a_self 0)), (1, .int v1), (2, .int v2), (3, .int v3), (4, .int v4)] []) (h : f_Md_takeRule_55 N kb kx102 s_self v1 v2 v3 v4 v5 = some f_self) : Gd p l e rm_Md_takeRule s m args below meth c 0 0 (MQ below (sq D classes (tyK K) none [wd_Md K a_self (a_least 0) f_self] A) args s 0 0 A) D classes A 8 55 [wd_Md K a_self (a_least 0) s_self] [(0, .ref (a_self 0)), (1, .int v1), (2, .int v2), (3, .int v3), (4, .int v4), (5, .int v5)] [] := by
  unfold f_Md_takeRule_55 at h
  refine gd_iload X d_Md_takeRule_55 5 rfl ?_
  refine gd_if_lt X (tgt := 102) d_Md_takeRule_57 (by decide) (fun c_1 => ?_) (fun c_1 => ?_)
  · replace h := it_p c_1 h
    refine gd_loc (lv' := [(0, .ref (a_self 0)), (1, .int v1), (2, .int v2), (3, .int v3), (4, .int v4)]) [0, 1, 2, 3, 4] rfl ?_
    exact hkx102 s_self h
  · replace h := it_n c_1 h
    refine gd_aload_n X d_Md_takeRule_60 0 rfl ?_
    refine gd_get X (ci := 7) (C := R_Md) (T := F_Md) (N := 36) (v := .ref (a_self 15)) 0 0 rfl rfl rfl (in_Md _) 24 (by decide) (List.mem_cons_of_mem _ fl_Md_57) rfl rfl d_Md_takeRule_61 ?_
    refine gd_iload X d_Md_takeRule_64 4 rfl ?_
    refine gd_aload_n X d_Md_takeRule_66 0 rfl ?_
    refine gd_get X (ci := 7) (C := R_Md) (T := F_Md) (N := 36) (v := .ref (a_self 14)) 0 0 rfl rfl rfl (in_Md _) 23 (by decide) (List.mem_cons_of_mem _ fl_Md_54) rfl rfl d_Md_takeRule_67 ?_
    refine gd_iload X d_Md_takeRule_70 5 rfl ?_
    obtain ⟨hi_2, h⟩ := ck_e h
    refine gd_iald X 0 14 0 rfl rfl rfl hi_2 d_Md_takeRule_72 ?_
    refine gd_aload_n X d_Md_takeRule_73 0 rfl ?_
    refine gd_get X (ci := 7) (C := R_Md) (T := F_Md) (N := 36) (v := .ref (a_self 14)) 0 0 rfl rfl rfl (in_Md _) 23 (by decide) (List.mem_cons_of_mem _ fl_Md_54) rfl rfl d_Md_takeRule_74 ?_
    refine gd_iload X d_Md_takeRule_77 4 rfl ?_
    obtain ⟨hi_3, h⟩ := ck_e h
    refine gd_iald X 0 14 0 rfl rfl rfl hi_3 d_Md_takeRule_79 ?_
    refine gd_icmp_ne X (tgt := 88) d_Md_takeRule_80 (by decide) (fun c_4 => ?_) (fun c_4 => ?_)
    · replace h := it_n c_4 h
      refine gd_aload_n X d_Md_takeRule_88 0 rfl ?_
      refine gd_get X (ci := 7) (C := R_Md) (T := F_Md) (N := 36) (v := .ref (a_self 15)) 0 0 rfl rfl rfl (in_Md _) 24 (by decide) (List.mem_cons_of_mem _ fl_Md_57) rfl rfl d_Md_takeRule_89 ?_
      refine gd_iload X d_Md_takeRule_92 4 rfl ?_
      obtain ⟨hi_5, h⟩ := ck_e h
      refine gd_iald X 0 15 0 rfl rfl rfl hi_5 d_Md_takeRule_94 ?_
      obtain ⟨hi_6, h⟩ := ck_e h
      obtain ⟨s_self_7, es_self_7, h⟩ := nm_e' h
      refine gd_iast X (w' := [wd_Md K a_self (a_least 0) s_self_7]) 0 15 0 rfl rfl rfl hi_6 d_Md_takeRule_95 (by rw [es_self_7]; rfl) ?_
      obtain ⟨v5_8, ev5_8, h⟩ := nm_e' h
      refine gd_iinc X (v := v5_8) (lv' := [(5, .int v5_8), (0, .ref (a_self 0)), (1, .int v1), (2, .int v2), (3, .int v3), (4, .int v4)]) d_Md_takeRule_96 (k := 5) rfl (by rw [ev5_8, show Int32.ofInt (-1) = (-1) from by decide]) (by decide) rfl ?_
      refine gd_goto X (tgt := 55) d_Md_takeRule_99 (by decide) ?_
      refine gd_loc (lv' := [(0, .ref (a_self 0)), (1, .int v1), (2, .int v2), (3, .int v3), (4, .int v4), (5, .int v5_8)]) [1, 2, 3, 4, 5, 0] rfl ?_
      exact hkb s_self_7 v5_8 h
    · replace h := it_p c_4 h
      refine gd_iload X d_Md_takeRule_83 5 rfl ?_
      refine gd_goto X (tgt := 95) d_Md_takeRule_85 (by decide) ?_
      obtain ⟨hi_9, h⟩ := ck_e h
      obtain ⟨s_self_10, es_self_10, h⟩ := nm_e' h
      refine gd_iast X (w' := [wd_Md K a_self (a_least 0) s_self_10]) 0 15 0 rfl rfl rfl hi_9 d_Md_takeRule_95 (by rw [es_self_10]; rfl) ?_
      obtain ⟨v5_11, ev5_11, h⟩ := nm_e' h
      refine gd_iinc X (v := v5_11) (lv' := [(5, .int v5_11), (0, .ref (a_self 0)), (1, .int v1), (2, .int v2), (3, .int v3), (4, .int v4)]) d_Md_takeRule_96 (k := 5) rfl (by rw [ev5_11, show Int32.ofInt (-1) = (-1) from by decide]) (by decide) rfl ?_
      refine gd_goto X (tgt := 55) d_Md_takeRule_99 (by decide) ?_
      refine gd_loc (lv' := [(0, .ref (a_self 0)), (1, .int v1), (2, .int v2), (3, .int v3), (4, .int v4), (5, .int v5_11)]) [1, 2, 3, 4, 5, 0] rfl ?_
      exact hkb s_self_10 v5_11 h
def f_Md_takeRule_102 (N : Nat) (kb : (Nat → Nat → Int32) → Int32 → Option ((Nat → Nat → Int32))) (kx141 : (Nat → Nat → Int32) → Option ((Nat → Nat → Int32))) (s_self : Nat → Nat → Int32) (v1 v2 v3 v4 : Int32) : Option ((Nat → Nat → Int32)) :=
  ck v4 4 <|
  if (s_self 15 (Int32.toNatClampNeg v4)) = v4 then
    ck (s_self 0 26) 4 <| nm (st2 s_self 13 (Int32.toNatClampNeg (s_self 0 26)) v4) fun s_self_5 =>
    nm (st2 s_self_5 0 26 ((s_self_5 0 26) + 1)) fun s_self_6 =>
    nm (v4 + 1) fun v4_7 =>
    kb s_self_6 v4_7
  else
    nm (v4 + 1) fun v4_3 =>
    kb s_self v4_3
set_option maxHeartbeats 4000000 in
set_option maxRecDepth 100000 in
theorem t_Md_takeRule_102 {p : Program} {l : Launch} {e : Env} {s : State} {m : MethodId} {args : Array Value} {below : List Frame} {meth : Method} {c : Code} {A : Nat → Prop} {D : va_G} {K : Nat → ClassId} (a_self a_least : Nat → Nat) (X : gx p s m args c b_Md_takeRule 8 R_Md w_Md_takeRule D classes (tyK K) A) (hr : meth.sig.returnType = none) (hlk : meth.locks = false) (N : Nat) (f_self : Nat → Nat → Int32) (s_self : Nat → Nat → Int32) (v1 v2 v3 v4 : Int32) (kb : (Nat → Nat → Int32) → Int32 → Option ((Nat → Nat → Int32))) (hkb : ∀ (s_self : Nat → Nat → Int32) (v4 : Int32), kb s_self v4 = some f_self → Gd p l e rm_Md_takeRule s m args below meth c 0 0 (MQ below (sq D classes (tyK K) none [wd_Md K a_self (a_least 0) f_self] A) args s 0 0 A) D classes A 8 17 [wd_Md K a_self (a_least 0) s_self] [(0, .ref (a_self 0)), (1, .int v1), (2, .int v2), (3, .int v3), (4, .int v4)] []) (kx141 : (Nat → Nat → Int32) → Option ((Nat → Nat → Int32))) (hkx141 : ∀ (s_self : Nat → Nat → Int32), kx141 s_self = some f_self → Gd p l e rm_Md_takeRule s m args below meth c 0 0 (MQ below (sq D classes (tyK K) none [wd_Md K a_self (a_least 0) f_self] A) args s 0 0 A) D classes A 8 141 [wd_Md K a_self (a_least 0) s_self] [(0, .ref (a_self 0)), (1, .int v1), (2, .int v2), (3, .int v3)] []) (h : f_Md_takeRule_102 N kb kx141 s_self v1 v2 v3 v4 = some f_self) : Gd p l e rm_Md_takeRule s m args below meth c 0 0 (MQ below (sq D classes (tyK K) none [wd_Md K a_self (a_least 0) f_self] A) args s 0 0 A) D classes A 8 102 [wd_Md K a_self (a_least 0) s_self] [(0, .ref (a_self 0)), (1, .int v1), (2, .int v2), (3, .int v3), (4, .int v4)] [] := by
  unfold f_Md_takeRule_102 at h
  refine gd_aload_n X d_Md_takeRule_102 0 rfl ?_
  refine gd_get X (ci := 7) (C := R_Md) (T := F_Md) (N := 36) (v := .ref (a_self 15)) 0 0 rfl rfl rfl (in_Md _) 24 (by decide) (List.mem_cons_of_mem _ fl_Md_57) rfl rfl d_Md_takeRule_103 ?_
  refine gd_iload X d_Md_takeRule_106 4 rfl ?_
  obtain ⟨hi_1, h⟩ := ck_e h
  refine gd_iald X 0 15 0 rfl rfl rfl hi_1 d_Md_takeRule_108 ?_
  refine gd_iload X d_Md_takeRule_109 4 rfl ?_
  refine gd_icmp_ne X (tgt := 135) d_Md_takeRule_111 (by decide) (fun c_2 => ?_) (fun c_2 => ?_)
  · replace h := it_n c_2 h
    obtain ⟨v4_3, ev4_3, h⟩ := nm_e' h
    refine gd_iinc X (v := v4_3) (lv' := [(4, .int v4_3), (0, .ref (a_self 0)), (1, .int v1), (2, .int v2), (3, .int v3)]) d_Md_takeRule_135 (k := 4) rfl (by rw [ev4_3]; rfl) (by decide) rfl ?_
    refine gd_goto X (tgt := 17) d_Md_takeRule_138 (by decide) ?_
    refine gd_loc (lv' := [(0, .ref (a_self 0)), (1, .int v1), (2, .int v2), (3, .int v3), (4, .int v4_3)]) [1, 2, 3, 4, 0] rfl ?_
    exact hkb s_self v4_3 h
  · replace h := it_p c_2 h
    refine gd_aload_n X d_Md_takeRule_114 0 rfl ?_
    refine gd_get X (ci := 7) (C := R_Md) (T := F_Md) (N := 36) (v := .ref (a_self 13)) 0 0 rfl rfl rfl (in_Md _) 22 (by decide) (List.mem_cons_of_mem _ fl_Md_51) rfl rfl d_Md_takeRule_115 ?_
    refine gd_aload_n X d_Md_takeRule_118 0 rfl ?_
    refine gd_get X (ci := 7) (C := R_Md) (T := F_Md) (N := 36) (v := .int (s_self 0 26)) 0 0 rfl rfl rfl (in_Md _) 26 (by decide) (List.mem_cons_of_mem _ fl_Md_142) rfl rfl d_Md_takeRule_119 ?_
    refine gd_iload X d_Md_takeRule_122 4 rfl ?_
    obtain ⟨hi_4, h⟩ := ck_e h
    obtain ⟨s_self_5, es_self_5, h⟩ := nm_e' h
    refine gd_iast X (w' := [wd_Md K a_self (a_least 0) s_self_5]) 0 13 0 rfl rfl rfl hi_4 d_Md_takeRule_124 (by rw [es_self_5]; rfl) ?_
    refine gd_aload_n X d_Md_takeRule_125 0 rfl ?_
    refine gd_dup X d_Md_takeRule_126 rfl ?_
    refine gd_get X (ci := 7) (C := R_Md) (T := F_Md) (N := 36) (v := .int (s_self_5 0 26)) 0 0 rfl rfl rfl (in_Md _) 26 (by decide) (List.mem_cons_of_mem _ fl_Md_142) rfl rfl d_Md_takeRule_127 ?_
    refine gd_iconst X (v := 1) d_Md_takeRule_130 (by decide) ?_
    refine gd_iadd X d_Md_takeRule_131 ?_
    obtain ⟨s_self_6, es_self_6, h⟩ := nm_e' h
    refine gd_put X (ci := 7) (C := R_Md) (T := F_Md) (N := 36) (ty := .int) (w' := [wd_Md K a_self (a_least 0) s_self_6]) 0 0 rfl rfl rfl (in_Md _) t_Md t_Md_ok n_Md 26 (by decide) (List.mem_cons_of_mem _ fl_Md_142) rfl rfl (by decide +kernel) rfl rfl (Nat.le_of_ble_eq_true rfl) d_Md_takeRule_132 (by rw [es_self_6]; rfl) ?_
    obtain ⟨v4_7, ev4_7, h⟩ := nm_e' h
    refine gd_iinc X (v := v4_7) (lv' := [(4, .int v4_7), (0, .ref (a_self 0)), (1, .int v1), (2, .int v2), (3, .int v3)]) d_Md_takeRule_135 (k := 4) rfl (by rw [ev4_7]; rfl) (by decide) rfl ?_
    refine gd_goto X (tgt := 17) d_Md_takeRule_138 (by decide) ?_
    refine gd_loc (lv' := [(0, .ref (a_self 0)), (1, .int v1), (2, .int v2), (3, .int v3), (4, .int v4_7)]) [1, 2, 3, 4, 0] rfl ?_
    exact hkb s_self_6 v4_7 h
def l_Md_takeRule_55 (N : Nat) (v1 v2 v3 v4 : Int32) (kx102 : (Nat → Nat → Int32) → Option ((Nat → Nat → Int32))) : Nat → (Nat → Nat → Int32) → Int32 → Option ((Nat → Nat → Int32))
  | 0, _, _ => none
  | n + 1, s_self, v5 => f_Md_takeRule_55 N (l_Md_takeRule_55 N v1 v2 v3 v4 kx102 n) kx102 s_self v1 v2 v3 v4 v5
set_option maxHeartbeats 4000000 in
set_option maxRecDepth 100000 in
theorem tl_Md_takeRule_55 {p : Program} {l : Launch} {e : Env} {s : State} {m : MethodId} {args : Array Value} {below : List Frame} {meth : Method} {c : Code} {A : Nat → Prop} {D : va_G} {K : Nat → ClassId} (a_self a_least : Nat → Nat) (X : gx p s m args c b_Md_takeRule 8 R_Md w_Md_takeRule D classes (tyK K) A) (hr : meth.sig.returnType = none) (hlk : meth.locks = false) (N : Nat) (f_self : Nat → Nat → Int32) (v1 v2 v3 v4 : Int32) (kx102 : (Nat → Nat → Int32) → Option ((Nat → Nat → Int32))) (hkx102 : ∀ (s_self : Nat → Nat → Int32), kx102 s_self = some f_self → Gd p l e rm_Md_takeRule s m args below meth c 0 0 (MQ below (sq D classes (tyK K) none [wd_Md K a_self (a_least 0) f_self] A) args s 0 0 A) D classes A 8 102 [wd_Md K a_self (a_least 0) s_self] [(0, .ref (a_self 0)), (1, .int v1), (2, .int v2), (3, .int v3), (4, .int v4)] []) : ∀ (n : Nat) (s_self : Nat → Nat → Int32) (v5 : Int32), l_Md_takeRule_55 N v1 v2 v3 v4 kx102 n s_self v5 = some f_self → Gd p l e rm_Md_takeRule s m args below meth c 0 0 (MQ below (sq D classes (tyK K) none [wd_Md K a_self (a_least 0) f_self] A) args s 0 0 A) D classes A 8 55 [wd_Md K a_self (a_least 0) s_self] [(0, .ref (a_self 0)), (1, .int v1), (2, .int v2), (3, .int v3), (4, .int v4), (5, .int v5)] [] := by
  intro n
  induction n with
  | zero => intro s_self v5 h; have h : (none : Option ((Nat → Nat → Int32))) = some _ := h; cases h
  | succ n ih =>
    intro s_self v5 h
    exact t_Md_takeRule_55 a_self a_least X hr hlk N f_self s_self v1 v2 v3 v4 v5 (l_Md_takeRule_55 N v1 v2 v3 v4 kx102 n) ih kx102 hkx102 h
def f_Md_takeRule_17 (N : Nat) (kb : (Nat → Nat → Int32) → Int32 → Option ((Nat → Nat → Int32))) (kx141 : (Nat → Nat → Int32) → Option ((Nat → Nat → Int32))) (s_self : Nat → Nat → Int32) (v1 v2 v3 v4 : Int32) : Option ((Nat → Nat → Int32)) :=
  if (s_self 0 25) ≤ v4 then
    kx141 s_self
  else
    bd1 (m_Md_variableAt N s_self v1 v4) fun r_2 =>
    ck v4 4 <| nm (st2 s_self 14 (Int32.toNatClampNeg v4) r_2) fun s_self_5 =>
    ck v4 4 <| nm (st2 s_self_5 15 (Int32.toNatClampNeg v4) v4) fun s_self_7 =>
    nm (v4 - 1) fun v5_8 =>
    l_Md_takeRule_55 N v1 v2 v3 v4 (fun s_self => f_Md_takeRule_102 N kb kx141 s_self v1 v2 v3 v4) N s_self_7 v5_8
set_option maxHeartbeats 4000000 in
set_option maxRecDepth 100000 in
theorem t_Md_takeRule_17 {p : Program} {l : Launch} {e : Env} {s : State} {m : MethodId} {args : Array Value} {below : List Frame} {meth : Method} {c : Code} {A : Nat → Prop} {D : va_G} {K : Nat → ClassId} (a_self a_least : Nat → Nat) (X : gx p s m args c b_Md_takeRule 8 R_Md w_Md_takeRule D classes (tyK K) A) (hr : meth.sig.returnType = none) (hlk : meth.locks = false) (N : Nat) (f_self : Nat → Nat → Int32) (s_self : Nat → Nat → Int32) (v1 v2 v3 v4 : Int32) (kb : (Nat → Nat → Int32) → Int32 → Option ((Nat → Nat → Int32))) (hkb : ∀ (s_self : Nat → Nat → Int32) (v4 : Int32), kb s_self v4 = some f_self → Gd p l e rm_Md_takeRule s m args below meth c 0 0 (MQ below (sq D classes (tyK K) none [wd_Md K a_self (a_least 0) f_self] A) args s 0 0 A) D classes A 8 17 [wd_Md K a_self (a_least 0) s_self] [(0, .ref (a_self 0)), (1, .int v1), (2, .int v2), (3, .int v3), (4, .int v4)] []) (kx141 : (Nat → Nat → Int32) → Option ((Nat → Nat → Int32))) (hkx141 : ∀ (s_self : Nat → Nat → Int32), kx141 s_self = some f_self → Gd p l e rm_Md_takeRule s m args below meth c 0 0 (MQ below (sq D classes (tyK K) none [wd_Md K a_self (a_least 0) f_self] A) args s 0 0 A) D classes A 8 141 [wd_Md K a_self (a_least 0) s_self] [(0, .ref (a_self 0)), (1, .int v1), (2, .int v2), (3, .int v3)] []) (h : f_Md_takeRule_17 N kb kx141 s_self v1 v2 v3 v4 = some f_self) : Gd p l e rm_Md_takeRule s m args below meth c 0 0 (MQ below (sq D classes (tyK K) none [wd_Md K a_self (a_least 0) f_self] A) args s 0 0 A) D classes A 8 17 [wd_Md K a_self (a_least 0) s_self] [(0, .ref (a_self 0)), (1, .int v1), (2, .int v2), (3, .int v3), (4, .int v4)] [] := by
  unfold f_Md_takeRule_17 at h
  refine gd_iload X d_Md_takeRule_17 4 rfl ?_
  refine gd_aload_n X d_Md_takeRule_19 0 rfl ?_
  refine gd_get X (ci := 7) (C := R_Md) (T := F_Md) (N := 36) (v := .int (s_self 0 25)) 0 0 rfl rfl rfl (in_Md _) 25 (by decide) (List.mem_cons_of_mem _ fl_Md_135) rfl rfl d_Md_takeRule_20 ?_
  refine gd_icmp_ge X (tgt := 141) d_Md_takeRule_23 (by decide) (fun c_1 => ?_) (fun c_1 => ?_)
  · replace h := it_p c_1 h
    refine gd_loc (lv' := [(0, .ref (a_self 0)), (1, .int v1), (2, .int v2), (3, .int v3)]) [0, 1, 2, 3] rfl ?_
    exact hkx141 s_self h
  · replace h := it_n c_1 h
    refine gd_aload_n X d_Md_takeRule_26 0 rfl ?_
    refine gd_get X (ci := 7) (C := R_Md) (T := F_Md) (N := 36) (v := .ref (a_self 14)) 0 0 rfl rfl rfl (in_Md _) 23 (by decide) (List.mem_cons_of_mem _ fl_Md_54) rfl rfl d_Md_takeRule_27 ?_
    refine gd_iload X d_Md_takeRule_30 4 rfl ?_
    refine gd_aload_n X d_Md_takeRule_32 0 rfl ?_
    refine gd_iload_n X d_Md_takeRule_33 1 rfl ?_
    refine gd_iload X d_Md_takeRule_34 4 rfl ?_
    obtain ⟨r_2, hc_3, h⟩ := bd1_e h
    refine gd_fI X (gd_V X (As := [.int v1, .int v4]) (rest := [.int v4, .ref (a_self 14)]) (c_Md_variableAt l D K a_self a_least N s_self v1 v4 r_2 hc_3) 2 (gi_V ml_Md_161 u_Md_variableAt) rfl ⟨rfl, rfl⟩ (by decide +kernel) ⟨by decide, by decide⟩ (ci := 7) rfl rfl rfl rfl rfl rfl (Nat.le_of_ble_eq_true rfl) ⟨Nat.zero_le _, Nat.zero_le _⟩ d_Md_takeRule_36) ?_
    obtain ⟨hi_4, h⟩ := ck_e h
    obtain ⟨s_self_5, es_self_5, h⟩ := nm_e' h
    refine gd_iast X (w' := [wd_Md K a_self (a_least 0) s_self_5]) 0 14 0 rfl rfl rfl hi_4 d_Md_takeRule_39 (by rw [es_self_5]; rfl) ?_
    refine gd_aload_n X d_Md_takeRule_40 0 rfl ?_
    refine gd_get X (ci := 7) (C := R_Md) (T := F_Md) (N := 36) (v := .ref (a_self 15)) 0 0 rfl rfl rfl (in_Md _) 24 (by decide) (List.mem_cons_of_mem _ fl_Md_57) rfl rfl d_Md_takeRule_41 ?_
    refine gd_iload X d_Md_takeRule_44 4 rfl ?_
    refine gd_iload X d_Md_takeRule_46 4 rfl ?_
    obtain ⟨hi_6, h⟩ := ck_e h
    obtain ⟨s_self_7, es_self_7, h⟩ := nm_e' h
    refine gd_iast X (w' := [wd_Md K a_self (a_least 0) s_self_7]) 0 15 0 rfl rfl rfl hi_6 d_Md_takeRule_48 (by rw [es_self_7]; rfl) ?_
    refine gd_iload X d_Md_takeRule_49 4 rfl ?_
    refine gd_iconst X (v := 1) d_Md_takeRule_51 (by decide) ?_
    refine gd_isub X d_Md_takeRule_52 ?_
    obtain ⟨v5_8, ev5_8, h⟩ := nm_e' h
    refine gd_topi ev5_8 ?_
    refine gd_istore X (lv' := [(5, .int v5_8), (0, .ref (a_self 0)), (1, .int v1), (2, .int v2), (3, .int v3), (4, .int v4)]) d_Md_takeRule_53 (by decide) rfl ?_
    refine gd_loc (lv' := [(0, .ref (a_self 0)), (1, .int v1), (2, .int v2), (3, .int v3), (4, .int v4), (5, .int v5_8)]) [1, 2, 3, 4, 5, 0] rfl ?_
    exact tl_Md_takeRule_55 a_self a_least X hr hlk N f_self v1 v2 v3 v4 (fun s_self => f_Md_takeRule_102 N kb kx141 s_self v1 v2 v3 v4) (fun s_self h => t_Md_takeRule_102 a_self a_least X hr hlk N f_self s_self v1 v2 v3 v4 kb hkb kx141 hkx141 h) N s_self_7 v5_8 h
def f_Md_takeRule_183 (N : Nat) (kb : (Nat → Nat → Int32) → Int32 → Option ((Nat → Nat → Int32))) (kx206 : (Nat → Nat → Int32) → Option ((Nat → Nat → Int32))) (s_self : Nat → Nat → Int32) (v1 v2 v3 v4 v5 : Int32) : Option ((Nat → Nat → Int32)) :=
  if (s_self 0 25) ≤ v5 then
    kx206 s_self
  else
    ck v5 4 <| nm (st2 s_self 11 (Int32.toNatClampNeg v5) 1) fun s_self_3 =>
    nm (v5 + 1) fun v5_4 =>
    kb s_self_3 v5_4
set_option maxHeartbeats 4000000 in
set_option maxRecDepth 100000 in
theorem t_Md_takeRule_183 {p : Program} {l : Launch} {e : Env} {s : State} {m : MethodId} {args : Array Value} {below : List Frame} {meth : Method} {c : Code} {A : Nat → Prop} {D : va_G} {K : Nat → ClassId} (a_self a_least : Nat → Nat) (X : gx p s m args c b_Md_takeRule 8 R_Md w_Md_takeRule D classes (tyK K) A) (hr : meth.sig.returnType = none) (hlk : meth.locks = false) (N : Nat) (f_self : Nat → Nat → Int32) (s_self : Nat → Nat → Int32) (v1 v2 v3 v4 v5 : Int32) (kb : (Nat → Nat → Int32) → Int32 → Option ((Nat → Nat → Int32))) (hkb : ∀ (s_self : Nat → Nat → Int32) (v5 : Int32), kb s_self v5 = some f_self → Gd p l e rm_Md_takeRule s m args below meth c 0 0 (MQ below (sq D classes (tyK K) none [wd_Md K a_self (a_least 0) f_self] A) args s 0 0 A) D classes A 8 183 [wd_Md K a_self (a_least 0) s_self] [(0, .ref (a_self 0)), (1, .int v1), (2, .int v2), (3, .int v3), (4, .int v4), (5, .int v5)] []) (kx206 : (Nat → Nat → Int32) → Option ((Nat → Nat → Int32))) (hkx206 : ∀ (s_self : Nat → Nat → Int32), kx206 s_self = some f_self → Gd p l e rm_Md_takeRule s m args below meth c 0 0 (MQ below (sq D classes (tyK K) none [wd_Md K a_self (a_least 0) f_self] A) args s 0 0 A) D classes A 8 206 [wd_Md K a_self (a_least 0) s_self] [(0, .ref (a_self 0)), (1, .int v1), (2, .int v2), (3, .int v3), (4, .int v4)] []) (h : f_Md_takeRule_183 N kb kx206 s_self v1 v2 v3 v4 v5 = some f_self) : Gd p l e rm_Md_takeRule s m args below meth c 0 0 (MQ below (sq D classes (tyK K) none [wd_Md K a_self (a_least 0) f_self] A) args s 0 0 A) D classes A 8 183 [wd_Md K a_self (a_least 0) s_self] [(0, .ref (a_self 0)), (1, .int v1), (2, .int v2), (3, .int v3), (4, .int v4), (5, .int v5)] [] := by
  unfold f_Md_takeRule_183 at h
  refine gd_iload X d_Md_takeRule_183 5 rfl ?_
  refine gd_aload_n X d_Md_takeRule_185 0 rfl ?_
  refine gd_get X (ci := 7) (C := R_Md) (T := F_Md) (N := 36) (v := .int (s_self 0 25)) 0 0 rfl rfl rfl (in_Md _) 25 (by decide) (List.mem_cons_of_mem _ fl_Md_135) rfl rfl d_Md_takeRule_186 ?_
  refine gd_icmp_ge X (tgt := 206) d_Md_takeRule_189 (by decide) (fun c_1 => ?_) (fun c_1 => ?_)
  · replace h := it_p c_1 h
    refine gd_loc (lv' := [(0, .ref (a_self 0)), (1, .int v1), (2, .int v2), (3, .int v3), (4, .int v4)]) [0, 1, 2, 3, 4] rfl ?_
    exact hkx206 s_self h
  · replace h := it_n c_1 h
    refine gd_aload_n X d_Md_takeRule_192 0 rfl ?_
    refine gd_get X (ci := 7) (C := R_Md) (T := F_Md) (N := 36) (v := .ref (a_self 11)) 0 0 rfl rfl rfl (in_Md _) 20 (by decide) (List.mem_cons_of_mem _ fl_Md_45) rfl rfl d_Md_takeRule_193 ?_
    refine gd_iload X d_Md_takeRule_196 5 rfl ?_
    refine gd_iconst X (v := 1) d_Md_takeRule_198 (by decide) ?_
    obtain ⟨hi_2, h⟩ := ck_e h
    obtain ⟨s_self_3, es_self_3, h⟩ := nm_e' h
    refine gd_iast X (w' := [wd_Md K a_self (a_least 0) s_self_3]) 0 11 0 rfl rfl rfl hi_2 d_Md_takeRule_199 (by rw [es_self_3]; rfl) ?_
    obtain ⟨v5_4, ev5_4, h⟩ := nm_e' h
    refine gd_iinc X (v := v5_4) (lv' := [(5, .int v5_4), (0, .ref (a_self 0)), (1, .int v1), (2, .int v2), (3, .int v3), (4, .int v4)]) d_Md_takeRule_200 (k := 5) rfl (by rw [ev5_4]; rfl) (by decide) rfl ?_
    refine gd_goto X (tgt := 183) d_Md_takeRule_203 (by decide) ?_
    refine gd_loc (lv' := [(0, .ref (a_self 0)), (1, .int v1), (2, .int v2), (3, .int v3), (4, .int v4), (5, .int v5_4)]) [1, 2, 3, 4, 5, 0] rfl ?_
    exact hkb s_self_3 v5_4 h
def f_Md_takeRule_220 (N : Nat) (kb : Int32 → Int32 → Option ((Nat → Nat → Int32))) (kx249 : Int32 → Option ((Nat → Nat → Int32))) (s_self : Nat → Nat → Int32) (v1 v2 v3 v4 v6 v7 : Int32) : Option ((Nat → Nat → Int32)) :=
  if (s_self 0 25) ≤ (v7 + 1) then
    kx249 v6
  else
    ck v7 4 <|
    nm (v6 + (s_self 11 (Int32.toNatClampNeg v7))) fun v6_3 =>
    nm (v7 + 1) fun v7_4 =>
    kb v6_3 v7_4
set_option maxHeartbeats 4000000 in
set_option maxRecDepth 100000 in
theorem t_Md_takeRule_220 {p : Program} {l : Launch} {e : Env} {s : State} {m : MethodId} {args : Array Value} {below : List Frame} {meth : Method} {c : Code} {A : Nat → Prop} {D : va_G} {K : Nat → ClassId} (a_self a_least : Nat → Nat) (X : gx p s m args c b_Md_takeRule 8 R_Md w_Md_takeRule D classes (tyK K) A) (hr : meth.sig.returnType = none) (hlk : meth.locks = false) (N : Nat) (f_self : Nat → Nat → Int32) (s_self : Nat → Nat → Int32) (v1 v2 v3 v4 v6 v7 : Int32) (kb : Int32 → Int32 → Option ((Nat → Nat → Int32))) (hkb : ∀ (v6 v7 : Int32), kb v6 v7 = some f_self → Gd p l e rm_Md_takeRule s m args below meth c 0 0 (MQ below (sq D classes (tyK K) none [wd_Md K a_self (a_least 0) f_self] A) args s 0 0 A) D classes A 8 220 [wd_Md K a_self (a_least 0) s_self] [(0, .ref (a_self 0)), (1, .int v1), (2, .int v2), (3, .int v3), (4, .int v4), (6, .int v6), (7, .int v7)] []) (kx249 : Int32 → Option ((Nat → Nat → Int32))) (hkx249 : ∀ (v6 : Int32), kx249 v6 = some f_self → Gd p l e rm_Md_takeRule s m args below meth c 0 0 (MQ below (sq D classes (tyK K) none [wd_Md K a_self (a_least 0) f_self] A) args s 0 0 A) D classes A 8 249 [wd_Md K a_self (a_least 0) s_self] [(0, .ref (a_self 0)), (1, .int v1), (2, .int v2), (3, .int v3), (4, .int v4), (6, .int v6)] []) (h : f_Md_takeRule_220 N kb kx249 s_self v1 v2 v3 v4 v6 v7 = some f_self) : Gd p l e rm_Md_takeRule s m args below meth c 0 0 (MQ below (sq D classes (tyK K) none [wd_Md K a_self (a_least 0) f_self] A) args s 0 0 A) D classes A 8 220 [wd_Md K a_self (a_least 0) s_self] [(0, .ref (a_self 0)), (1, .int v1), (2, .int v2), (3, .int v3), (4, .int v4), (6, .int v6), (7, .int v7)] [] := by
  unfold f_Md_takeRule_220 at h
  refine gd_iload X d_Md_takeRule_220 6 rfl ?_
  refine gd_iconst X (v := 1) d_Md_takeRule_222 (by decide) ?_
  refine gd_iadd X d_Md_takeRule_223 ?_
  refine gd_aload_n X d_Md_takeRule_224 0 rfl ?_
  refine gd_get X (ci := 7) (C := R_Md) (T := F_Md) (N := 36) (v := .int (s_self 0 25)) 0 0 rfl rfl rfl (in_Md _) 25 (by decide) (List.mem_cons_of_mem _ fl_Md_135) rfl rfl d_Md_takeRule_225 ?_
  refine gd_icmp_ge X (tgt := 249) d_Md_takeRule_228 (by decide) (fun c_1 => ?_) (fun c_1 => ?_)
  · replace h := it_p c_1 h
    refine gd_loc (lv' := [(0, .ref (a_self 0)), (1, .int v1), (2, .int v2), (3, .int v3), (4, .int v4), (6, .int v6)]) [0, 1, 2, 3, 4, 5] rfl ?_
    exact hkx249 v6 h
  · replace h := it_n c_1 h
    refine gd_iload X d_Md_takeRule_231 5 rfl ?_
    refine gd_aload_n X d_Md_takeRule_233 0 rfl ?_
    refine gd_get X (ci := 7) (C := R_Md) (T := F_Md) (N := 36) (v := .ref (a_self 11)) 0 0 rfl rfl rfl (in_Md _) 20 (by decide) (List.mem_cons_of_mem _ fl_Md_45) rfl rfl d_Md_takeRule_234 ?_
    refine gd_iload X d_Md_takeRule_237 6 rfl ?_
    obtain ⟨hi_2, h⟩ := ck_e h
    refine gd_iald X 0 11 0 rfl rfl rfl hi_2 d_Md_takeRule_239 ?_
    refine gd_iadd X d_Md_takeRule_240 ?_
    obtain ⟨v6_3, ev6_3, h⟩ := nm_e' h
    refine gd_topi ev6_3 ?_
    refine gd_istore X (lv' := [(6, .int v6_3), (0, .ref (a_self 0)), (1, .int v1), (2, .int v2), (3, .int v3), (4, .int v4), (7, .int v7)]) d_Md_takeRule_241 (by decide) rfl ?_
    obtain ⟨v7_4, ev7_4, h⟩ := nm_e' h
    refine gd_iinc X (v := v7_4) (lv' := [(7, .int v7_4), (6, .int v6_3), (0, .ref (a_self 0)), (1, .int v1), (2, .int v2), (3, .int v3), (4, .int v4)]) d_Md_takeRule_243 (k := 6) rfl (by rw [ev7_4]; rfl) (by decide) rfl ?_
    refine gd_goto X (tgt := 220) d_Md_takeRule_246 (by decide) ?_
    refine gd_loc (lv' := [(0, .ref (a_self 0)), (1, .int v1), (2, .int v2), (3, .int v3), (4, .int v4), (6, .int v6_3), (7, .int v7_4)]) [2, 3, 4, 5, 6, 1, 0] rfl ?_
    exact hkb v6_3 v7_4 h
def f_Md_takeRule_306 (N : Nat) (kb : (Nat → Nat → Int32) → Int32 → Option ((Nat → Nat → Int32))) (kx343 : (Nat → Nat → Int32) → Int32 → Option ((Nat → Nat → Int32))) (s_self : Nat → Nat → Int32) (v1 v2 v3 v4 v7 : Int32) : Option ((Nat → Nat → Int32)) :=
  if (s_self 0 25) ≤ (v7 + 1) then
    kx343 s_self v7
  else
    ck v7 4 <|
    if (s_self 11 (Int32.toNatClampNeg v7)) = v4 then
      ck v7 4 <| nm (st2 s_self 11 (Int32.toNatClampNeg v7) 1) fun s_self_5 =>
      nm (v7 + 1) fun v7_6 =>
      kb s_self_5 v7_6
    else
      kx343 s_self v7
set_option maxHeartbeats 4000000 in
set_option maxRecDepth 100000 in
theorem t_Md_takeRule_306 {p : Program} {l : Launch} {e : Env} {s : State} {m : MethodId} {args : Array Value} {below : List Frame} {meth : Method} {c : Code} {A : Nat → Prop} {D : va_G} {K : Nat → ClassId} (a_self a_least : Nat → Nat) (X : gx p s m args c b_Md_takeRule 8 R_Md w_Md_takeRule D classes (tyK K) A) (hr : meth.sig.returnType = none) (hlk : meth.locks = false) (N : Nat) (f_self : Nat → Nat → Int32) (s_self : Nat → Nat → Int32) (v1 v2 v3 v4 v7 : Int32) (kb : (Nat → Nat → Int32) → Int32 → Option ((Nat → Nat → Int32))) (hkb : ∀ (s_self : Nat → Nat → Int32) (v7 : Int32), kb s_self v7 = some f_self → Gd p l e rm_Md_takeRule s m args below meth c 0 0 (MQ below (sq D classes (tyK K) none [wd_Md K a_self (a_least 0) f_self] A) args s 0 0 A) D classes A 8 306 [wd_Md K a_self (a_least 0) s_self] [(0, .ref (a_self 0)), (1, .int v1), (2, .int v2), (3, .int v3), (4, .int v4), (7, .int v7)] []) (kx343 : (Nat → Nat → Int32) → Int32 → Option ((Nat → Nat → Int32))) (hkx343 : ∀ (s_self : Nat → Nat → Int32) (v7 : Int32), kx343 s_self v7 = some f_self → Gd p l e rm_Md_takeRule s m args below meth c 0 0 (MQ below (sq D classes (tyK K) none [wd_Md K a_self (a_least 0) f_self] A) args s 0 0 A) D classes A 8 343 [wd_Md K a_self (a_least 0) s_self] [(0, .ref (a_self 0)), (1, .int v1), (2, .int v2), (3, .int v3), (4, .int v4), (7, .int v7)] []) (h : f_Md_takeRule_306 N kb kx343 s_self v1 v2 v3 v4 v7 = some f_self) : Gd p l e rm_Md_takeRule s m args below meth c 0 0 (MQ below (sq D classes (tyK K) none [wd_Md K a_self (a_least 0) f_self] A) args s 0 0 A) D classes A 8 306 [wd_Md K a_self (a_least 0) s_self] [(0, .ref (a_self 0)), (1, .int v1), (2, .int v2), (3, .int v3), (4, .int v4), (7, .int v7)] [] := by
  unfold f_Md_takeRule_306 at h
  refine gd_iload X d_Md_takeRule_306 5 rfl ?_
  refine gd_iconst X (v := 1) d_Md_takeRule_308 (by decide) ?_
  refine gd_iadd X d_Md_takeRule_309 ?_
  refine gd_aload_n X d_Md_takeRule_310 0 rfl ?_
  refine gd_get X (ci := 7) (C := R_Md) (T := F_Md) (N := 36) (v := .int (s_self 0 25)) 0 0 rfl rfl rfl (in_Md _) 25 (by decide) (List.mem_cons_of_mem _ fl_Md_135) rfl rfl d_Md_takeRule_311 ?_
  refine gd_icmp_ge X (tgt := 343) d_Md_takeRule_314 (by decide) (fun c_1 => ?_) (fun c_1 => ?_)
  · replace h := it_p c_1 h
    exact hkx343 s_self v7 h
  · replace h := it_n c_1 h
    refine gd_aload_n X d_Md_takeRule_317 0 rfl ?_
    refine gd_get X (ci := 7) (C := R_Md) (T := F_Md) (N := 36) (v := .ref (a_self 11)) 0 0 rfl rfl rfl (in_Md _) 20 (by decide) (List.mem_cons_of_mem _ fl_Md_45) rfl rfl d_Md_takeRule_318 ?_
    refine gd_iload X d_Md_takeRule_321 5 rfl ?_
    obtain ⟨hi_2, h⟩ := ck_e h
    refine gd_iald X 0 11 0 rfl rfl rfl hi_2 d_Md_takeRule_323 ?_
    refine gd_iload X d_Md_takeRule_324 4 rfl ?_
    refine gd_icmp_ne X (tgt := 343) d_Md_takeRule_326 (by decide) (fun c_3 => ?_) (fun c_3 => ?_)
    · replace h := it_n c_3 h
      exact hkx343 s_self v7 h
    · replace h := it_p c_3 h
      refine gd_aload_n X d_Md_takeRule_329 0 rfl ?_
      refine gd_get X (ci := 7) (C := R_Md) (T := F_Md) (N := 36) (v := .ref (a_self 11)) 0 0 rfl rfl rfl (in_Md _) 20 (by decide) (List.mem_cons_of_mem _ fl_Md_45) rfl rfl d_Md_takeRule_330 ?_
      refine gd_iload X d_Md_takeRule_333 5 rfl ?_
      refine gd_iconst X (v := 1) d_Md_takeRule_335 (by decide) ?_
      obtain ⟨hi_4, h⟩ := ck_e h
      obtain ⟨s_self_5, es_self_5, h⟩ := nm_e' h
      refine gd_iast X (w' := [wd_Md K a_self (a_least 0) s_self_5]) 0 11 0 rfl rfl rfl hi_4 d_Md_takeRule_336 (by rw [es_self_5]; rfl) ?_
      obtain ⟨v7_6, ev7_6, h⟩ := nm_e' h
      refine gd_iinc X (v := v7_6) (lv' := [(7, .int v7_6), (0, .ref (a_self 0)), (1, .int v1), (2, .int v2), (3, .int v3), (4, .int v4)]) d_Md_takeRule_337 (k := 5) rfl (by rw [ev7_6]; rfl) (by decide) rfl ?_
      refine gd_goto X (tgt := 306) d_Md_takeRule_340 (by decide) ?_
      refine gd_loc (lv' := [(0, .ref (a_self 0)), (1, .int v1), (2, .int v2), (3, .int v3), (4, .int v4), (7, .int v7_6)]) [1, 2, 3, 4, 5, 0] rfl ?_
      exact hkb s_self_5 v7_6 h
def f_Md_takeRule_359 (N : Nat) (kb : (Nat → Nat → Int32) → Int32 → Option ((Nat → Nat → Int32))) (kx380 : (Nat → Nat → Int32) → Option ((Nat → Nat → Int32))) (s_self : Nat → Nat → Int32) (v1 v2 v3 v4 v7 : Int32) (k0 : Int32) : Option ((Nat → Nat → Int32)) :=
  if k0 = 0 then
    kb s_self k0
  else
    ck v7 4 <|
    ck v7 4 <| nm (st2 s_self 11 (Int32.toNatClampNeg v7) ((s_self 11 (Int32.toNatClampNeg v7)) + 1)) fun s_self_4 =>
    kb s_self_4 k0
set_option maxHeartbeats 4000000 in
set_option maxRecDepth 100000 in
theorem t_Md_takeRule_359 {p : Program} {l : Launch} {e : Env} {s : State} {m : MethodId} {args : Array Value} {below : List Frame} {meth : Method} {c : Code} {A : Nat → Prop} {D : va_G} {K : Nat → ClassId} (a_self a_least : Nat → Nat) (X : gx p s m args c b_Md_takeRule 8 R_Md w_Md_takeRule D classes (tyK K) A) (hr : meth.sig.returnType = none) (hlk : meth.locks = false) (N : Nat) (f_self : Nat → Nat → Int32) (s_self : Nat → Nat → Int32) (v1 v2 v3 v4 v7 : Int32) (k0 : Int32) (kb : (Nat → Nat → Int32) → Int32 → Option ((Nat → Nat → Int32))) (hkb : ∀ (s_self : Nat → Nat → Int32) (v5 : Int32), kb s_self v5 = some f_self → Gd p l e rm_Md_takeRule s m args below meth c 0 0 (MQ below (sq D classes (tyK K) none [wd_Md K a_self (a_least 0) f_self] A) args s 0 0 A) D classes A 8 209 [wd_Md K a_self (a_least 0) s_self] [(0, .ref (a_self 0)), (1, .int v1), (2, .int v2), (3, .int v3), (4, .int v4), (5, .int v5)] []) (kx380 : (Nat → Nat → Int32) → Option ((Nat → Nat → Int32))) (hkx380 : ∀ (s_self : Nat → Nat → Int32), kx380 s_self = some f_self → Gd p l e rm_Md_takeRule s m args below meth c 0 0 (MQ below (sq D classes (tyK K) none [wd_Md K a_self (a_least 0) f_self] A) args s 0 0 A) D classes A 8 380 [wd_Md K a_self (a_least 0) s_self] [] []) (h : f_Md_takeRule_359 N kb kx380 s_self v1 v2 v3 v4 v7 k0 = some f_self) : Gd p l e rm_Md_takeRule s m args below meth c 0 0 (MQ below (sq D classes (tyK K) none [wd_Md K a_self (a_least 0) f_self] A) args s 0 0 A) D classes A 8 359 [wd_Md K a_self (a_least 0) s_self] [(0, .ref (a_self 0)), (1, .int v1), (2, .int v2), (3, .int v3), (4, .int v4), (7, .int v7)] [.int k0] := by
  unfold f_Md_takeRule_359 at h
  refine gd_istore X (lv' := [(5, .int k0), (0, .ref (a_self 0)), (1, .int v1), (2, .int v2), (3, .int v3), (4, .int v4), (7, .int v7)]) d_Md_takeRule_359 (by decide) rfl ?_
  refine gd_iload X d_Md_takeRule_361 0 rfl ?_
  refine gd_if_eq X (tgt := 377) d_Md_takeRule_363 (by decide) (fun c_1 => ?_) (fun c_1 => ?_)
  · replace h := it_p c_1 h
    refine gd_goto X (tgt := 209) d_Md_takeRule_377 (by decide) ?_
    refine gd_loc (lv' := [(0, .ref (a_self 0)), (1, .int v1), (2, .int v2), (3, .int v3), (4, .int v4), (5, .int k0)]) [1, 2, 3, 4, 5, 0] rfl ?_
    exact hkb s_self k0 h
  · replace h := it_n c_1 h
    refine gd_aload_n X d_Md_takeRule_366 1 rfl ?_
    refine gd_get X (ci := 7) (C := R_Md) (T := F_Md) (N := 36) (v := .ref (a_self 11)) 0 0 rfl rfl rfl (in_Md _) 20 (by decide) (List.mem_cons_of_mem _ fl_Md_45) rfl rfl d_Md_takeRule_367 ?_
    refine gd_iload X d_Md_takeRule_370 6 rfl ?_
    refine gd_dup2 X d_Md_takeRule_372 rfl rfl ?_
    obtain ⟨hi_2, h⟩ := ck_e h
    refine gd_iald X 0 11 0 rfl rfl rfl hi_2 d_Md_takeRule_373 ?_
    refine gd_iconst X (v := 1) d_Md_takeRule_374 (by decide) ?_
    refine gd_iadd X d_Md_takeRule_375 ?_
    obtain ⟨hi_3, h⟩ := ck_e h
    obtain ⟨s_self_4, es_self_4, h⟩ := nm_e' h
    refine gd_iast X (w' := [wd_Md K a_self (a_least 0) s_self_4]) 0 11 0 rfl rfl rfl hi_3 d_Md_takeRule_376 (by rw [es_self_4]; rfl) ?_
    refine gd_goto X (tgt := 209) d_Md_takeRule_377 (by decide) ?_
    refine gd_loc (lv' := [(0, .ref (a_self 0)), (1, .int v1), (2, .int v2), (3, .int v3), (4, .int v4), (5, .int k0)]) [1, 2, 3, 4, 5, 0] rfl ?_
    exact hkb s_self_4 k0 h
def f_Md_takeRule_343 (N : Nat) (kb : (Nat → Nat → Int32) → Int32 → Option ((Nat → Nat → Int32))) (kx380 : (Nat → Nat → Int32) → Option ((Nat → Nat → Int32))) (s_self : Nat → Nat → Int32) (v1 v2 v3 v4 v7 : Int32) : Option ((Nat → Nat → Int32)) :=
  if (s_self 0 25) ≤ (v7 + 1) then
    f_Md_takeRule_359 N kb kx380 s_self v1 v2 v3 v4 v7 0
  else
    f_Md_takeRule_359 N kb kx380 s_self v1 v2 v3 v4 v7 1
set_option maxHeartbeats 4000000 in
set_option maxRecDepth 100000 in
theorem t_Md_takeRule_343 {p : Program} {l : Launch} {e : Env} {s : State} {m : MethodId} {args : Array Value} {below : List Frame} {meth : Method} {c : Code} {A : Nat → Prop} {D : va_G} {K : Nat → ClassId} (a_self a_least : Nat → Nat) (X : gx p s m args c b_Md_takeRule 8 R_Md w_Md_takeRule D classes (tyK K) A) (hr : meth.sig.returnType = none) (hlk : meth.locks = false) (N : Nat) (f_self : Nat → Nat → Int32) (s_self : Nat → Nat → Int32) (v1 v2 v3 v4 v7 : Int32) (kb : (Nat → Nat → Int32) → Int32 → Option ((Nat → Nat → Int32))) (hkb : ∀ (s_self : Nat → Nat → Int32) (v5 : Int32), kb s_self v5 = some f_self → Gd p l e rm_Md_takeRule s m args below meth c 0 0 (MQ below (sq D classes (tyK K) none [wd_Md K a_self (a_least 0) f_self] A) args s 0 0 A) D classes A 8 209 [wd_Md K a_self (a_least 0) s_self] [(0, .ref (a_self 0)), (1, .int v1), (2, .int v2), (3, .int v3), (4, .int v4), (5, .int v5)] []) (kx380 : (Nat → Nat → Int32) → Option ((Nat → Nat → Int32))) (hkx380 : ∀ (s_self : Nat → Nat → Int32), kx380 s_self = some f_self → Gd p l e rm_Md_takeRule s m args below meth c 0 0 (MQ below (sq D classes (tyK K) none [wd_Md K a_self (a_least 0) f_self] A) args s 0 0 A) D classes A 8 380 [wd_Md K a_self (a_least 0) s_self] [] []) (h : f_Md_takeRule_343 N kb kx380 s_self v1 v2 v3 v4 v7 = some f_self) : Gd p l e rm_Md_takeRule s m args below meth c 0 0 (MQ below (sq D classes (tyK K) none [wd_Md K a_self (a_least 0) f_self] A) args s 0 0 A) D classes A 8 343 [wd_Md K a_self (a_least 0) s_self] [(0, .ref (a_self 0)), (1, .int v1), (2, .int v2), (3, .int v3), (4, .int v4), (7, .int v7)] [] := by
  unfold f_Md_takeRule_343 at h
  refine gd_iload X d_Md_takeRule_343 5 rfl ?_
  refine gd_iconst X (v := 1) d_Md_takeRule_345 (by decide) ?_
  refine gd_iadd X d_Md_takeRule_346 ?_
  refine gd_aload_n X d_Md_takeRule_347 0 rfl ?_
  refine gd_get X (ci := 7) (C := R_Md) (T := F_Md) (N := 36) (v := .int (s_self 0 25)) 0 0 rfl rfl rfl (in_Md _) 25 (by decide) (List.mem_cons_of_mem _ fl_Md_135) rfl rfl d_Md_takeRule_348 ?_
  refine gd_icmp_ge X (tgt := 358) d_Md_takeRule_351 (by decide) (fun c_1 => ?_) (fun c_1 => ?_)
  · replace h := it_p c_1 h
    refine gd_iconst X (v := 0) d_Md_takeRule_358 (by decide) ?_
    exact t_Md_takeRule_359 a_self a_least X hr hlk N f_self s_self v1 v2 v3 v4 v7 0 kb hkb kx380 hkx380 h
  · replace h := it_n c_1 h
    refine gd_iconst X (v := 1) d_Md_takeRule_354 (by decide) ?_
    refine gd_goto X (tgt := 359) d_Md_takeRule_355 (by decide) ?_
    exact t_Md_takeRule_359 a_self a_least X hr hlk N f_self s_self v1 v2 v3 v4 v7 1 kb hkb kx380 hkx380 h
def l_Md_takeRule_306 (N : Nat) (v1 v2 v3 v4 : Int32) (kx343 : (Nat → Nat → Int32) → Int32 → Option ((Nat → Nat → Int32))) : Nat → (Nat → Nat → Int32) → Int32 → Option ((Nat → Nat → Int32))
  | 0, _, _ => none
  | n + 1, s_self, v7 => f_Md_takeRule_306 N (l_Md_takeRule_306 N v1 v2 v3 v4 kx343 n) kx343 s_self v1 v2 v3 v4 v7
set_option maxHeartbeats 4000000 in
set_option maxRecDepth 100000 in
theorem tl_Md_takeRule_306 {p : Program} {l : Launch} {e : Env} {s : State} {m : MethodId} {args : Array Value} {below : List Frame} {meth : Method} {c : Code} {A : Nat → Prop} {D : va_G} {K : Nat → ClassId} (a_self a_least : Nat → Nat) (X : gx p s m args c b_Md_takeRule 8 R_Md w_Md_takeRule D classes (tyK K) A) (hr : meth.sig.returnType = none) (hlk : meth.locks = false) (N : Nat) (f_self : Nat → Nat → Int32) (v1 v2 v3 v4 : Int32) (kx343 : (Nat → Nat → Int32) → Int32 → Option ((Nat → Nat → Int32))) (hkx343 : ∀ (s_self : Nat → Nat → Int32) (v7 : Int32), kx343 s_self v7 = some f_self → Gd p l e rm_Md_takeRule s m args below meth c 0 0 (MQ below (sq D classes (tyK K) none [wd_Md K a_self (a_least 0) f_self] A) args s 0 0 A) D classes A 8 343 [wd_Md K a_self (a_least 0) s_self] [(0, .ref (a_self 0)), (1, .int v1), (2, .int v2), (3, .int v3), (4, .int v4), (7, .int v7)] []) : ∀ (n : Nat) (s_self : Nat → Nat → Int32) (v7 : Int32), l_Md_takeRule_306 N v1 v2 v3 v4 kx343 n s_self v7 = some f_self → Gd p l e rm_Md_takeRule s m args below meth c 0 0 (MQ below (sq D classes (tyK K) none [wd_Md K a_self (a_least 0) f_self] A) args s 0 0 A) D classes A 8 306 [wd_Md K a_self (a_least 0) s_self] [(0, .ref (a_self 0)), (1, .int v1), (2, .int v2), (3, .int v3), (4, .int v4), (7, .int v7)] [] := by
  intro n
  induction n with
  | zero => intro s_self v7 h; have h : (none : Option ((Nat → Nat → Int32))) = some _ := h; cases h
  | succ n ih =>
    intro s_self v7 h
    exact t_Md_takeRule_306 a_self a_least X hr hlk N f_self s_self v1 v2 v3 v4 v7 (l_Md_takeRule_306 N v1 v2 v3 v4 kx343 n) ih kx343 hkx343 h
def f_Md_takeRule_286 (N : Nat) (kb : (Nat → Nat → Int32) → Int32 → Option ((Nat → Nat → Int32))) (kx380 : (Nat → Nat → Int32) → Option ((Nat → Nat → Int32))) (s_self : Nat → Nat → Int32) (v1 v2 v3 v4 : Int32) : Option ((Nat → Nat → Int32)) :=
  bd2 (m_Md_comesUpon N s_self v1 v2 v3) fun r_1 s_self_2 =>
  if r_1 = 0 then
    l_Md_takeRule_306 N v1 v2 v3 v4 (fun s_self v7 => f_Md_takeRule_343 N kb kx380 s_self v1 v2 v3 v4 v7) N s_self_2 0
  else
    bd1 (m_Md_takeWay N s_self_2 v1 v2 v3) fun s_self_5 =>
    l_Md_takeRule_306 N v1 v2 v3 v4 (fun s_self v7 => f_Md_takeRule_343 N kb kx380 s_self v1 v2 v3 v4 v7) N s_self_5 0
set_option maxHeartbeats 4000000 in
set_option maxRecDepth 100000 in
theorem t_Md_takeRule_286 {p : Program} {l : Launch} {e : Env} {s : State} {m : MethodId} {args : Array Value} {below : List Frame} {meth : Method} {c : Code} {A : Nat → Prop} {D : va_G} {K : Nat → ClassId} (a_self a_least : Nat → Nat) (X : gx p s m args c b_Md_takeRule 8 R_Md w_Md_takeRule D classes (tyK K) A) (hr : meth.sig.returnType = none) (hlk : meth.locks = false) (N : Nat) (f_self : Nat → Nat → Int32) (s_self : Nat → Nat → Int32) (v1 v2 v3 v4 : Int32) (kb : (Nat → Nat → Int32) → Int32 → Option ((Nat → Nat → Int32))) (hkb : ∀ (s_self : Nat → Nat → Int32) (v5 : Int32), kb s_self v5 = some f_self → Gd p l e rm_Md_takeRule s m args below meth c 0 0 (MQ below (sq D classes (tyK K) none [wd_Md K a_self (a_least 0) f_self] A) args s 0 0 A) D classes A 8 209 [wd_Md K a_self (a_least 0) s_self] [(0, .ref (a_self 0)), (1, .int v1), (2, .int v2), (3, .int v3), (4, .int v4), (5, .int v5)] []) (kx380 : (Nat → Nat → Int32) → Option ((Nat → Nat → Int32))) (hkx380 : ∀ (s_self : Nat → Nat → Int32), kx380 s_self = some f_self → Gd p l e rm_Md_takeRule s m args below meth c 0 0 (MQ below (sq D classes (tyK K) none [wd_Md K a_self (a_least 0) f_self] A) args s 0 0 A) D classes A 8 380 [wd_Md K a_self (a_least 0) s_self] [] []) (h : f_Md_takeRule_286 N kb kx380 s_self v1 v2 v3 v4 = some f_self) : Gd p l e rm_Md_takeRule s m args below meth c 0 0 (MQ below (sq D classes (tyK K) none [wd_Md K a_self (a_least 0) f_self] A) args s 0 0 A) D classes A 8 286 [wd_Md K a_self (a_least 0) s_self] [(0, .ref (a_self 0)), (1, .int v1), (2, .int v2), (3, .int v3), (4, .int v4)] [] := by
  unfold f_Md_takeRule_286 at h
  refine gd_aload_n X d_Md_takeRule_286 0 rfl ?_
  refine gd_iload_n X d_Md_takeRule_287 1 rfl ?_
  refine gd_iload_n X d_Md_takeRule_288 2 rfl ?_
  refine gd_iload_n X d_Md_takeRule_289 3 rfl ?_
  obtain ⟨r_1, s_self_2, hc_3, h⟩ := bd2_e h
  refine gd_fI X (w1 := [wd_Md K a_self (a_least 0) s_self_2]) (gd_V X (As := [.int v1, .int v2, .int v3]) (rest := []) (c_Md_comesUpon l D K a_self a_least N s_self v1 v2 v3 r_1 s_self_2 hc_3) 3 (gi_V ml_Md_164 u_Md_comesUpon) rfl ⟨rfl, rfl⟩ (by decide +kernel) ⟨by decide, by decide⟩ (ci := 7) rfl rfl rfl rfl rfl rfl (Nat.le_of_ble_eq_true rfl) ⟨Nat.zero_le _, Nat.zero_le _⟩ d_Md_takeRule_290) ?_
  refine gd_if_eq X (tgt := 303) d_Md_takeRule_293 (by decide) (fun c_4 => ?_) (fun c_4 => ?_)
  · replace h := it_p c_4 h
    refine gd_iconst X (v := 0) d_Md_takeRule_303 (by decide) ?_
    refine gd_istore X (lv' := [(7, .int 0), (0, .ref (a_self 0)), (1, .int v1), (2, .int v2), (3, .int v3), (4, .int v4)]) d_Md_takeRule_304 (by decide) rfl ?_
    refine gd_loc (lv' := [(0, .ref (a_self 0)), (1, .int v1), (2, .int v2), (3, .int v3), (4, .int v4), (7, .int 0)]) [1, 2, 3, 4, 5, 0] rfl ?_
    exact tl_Md_takeRule_306 a_self a_least X hr hlk N f_self v1 v2 v3 v4 (fun s_self v7 => f_Md_takeRule_343 N kb kx380 s_self v1 v2 v3 v4 v7) (fun s_self v7 h => t_Md_takeRule_343 a_self a_least X hr hlk N f_self s_self v1 v2 v3 v4 v7 kb hkb kx380 hkx380 h) N s_self_2 0 h
  · replace h := it_n c_4 h
    refine gd_aload_n X d_Md_takeRule_296 0 rfl ?_
    refine gd_iload_n X d_Md_takeRule_297 1 rfl ?_
    refine gd_iload_n X d_Md_takeRule_298 2 rfl ?_
    refine gd_iload_n X d_Md_takeRule_299 3 rfl ?_
    obtain ⟨s_self_5, hc_6, h⟩ := bd1_e h
    refine gd_fv X (w1 := [wd_Md K a_self (a_least 0) s_self_5]) (gd_V X (As := [.int v1, .int v2, .int v3]) (rest := []) (c_Md_takeWay l D K a_self a_least N s_self_2 v1 v2 v3 s_self_5 hc_6) 3 (gi_V ml_Md_168 u_Md_takeWay) rfl ⟨rfl, rfl⟩ (by decide +kernel) ⟨by decide, by decide⟩ (ci := 7) rfl rfl rfl rfl rfl rfl (Nat.le_of_ble_eq_true rfl) ⟨Nat.zero_le _, Nat.zero_le _⟩ d_Md_takeRule_300) ?_
    refine gd_iconst X (v := 0) d_Md_takeRule_303 (by decide) ?_
    refine gd_istore X (lv' := [(7, .int 0), (0, .ref (a_self 0)), (1, .int v1), (2, .int v2), (3, .int v3), (4, .int v4)]) d_Md_takeRule_304 (by decide) rfl ?_
    refine gd_loc (lv' := [(0, .ref (a_self 0)), (1, .int v1), (2, .int v2), (3, .int v3), (4, .int v4), (7, .int 0)]) [1, 2, 3, 4, 5, 0] rfl ?_
    exact tl_Md_takeRule_306 a_self a_least X hr hlk N f_self v1 v2 v3 v4 (fun s_self v7 => f_Md_takeRule_343 N kb kx380 s_self v1 v2 v3 v4 v7) (fun s_self v7 h => t_Md_takeRule_343 a_self a_least X hr hlk N f_self s_self v1 v2 v3 v4 v7 kb hkb kx380 hkx380 h) N s_self_5 0 h
def f_Md_takeRule_249 (N : Nat) (kb : (Nat → Nat → Int32) → Int32 → Option ((Nat → Nat → Int32))) (kx380 : (Nat → Nat → Int32) → Option ((Nat → Nat → Int32))) (s_self : Nat → Nat → Int32) (v1 v2 v3 v4 v6 : Int32) : Option ((Nat → Nat → Int32)) :=
  if (s_self 0 25) ≤ 0 then
    if (s_self 0 25) = 0 then
      f_Md_takeRule_286 N kb kx380 s_self v1 v2 v3 v4
    else
      if v4 ≤ v6 then
        l_Md_takeRule_306 N v1 v2 v3 v4 (fun s_self v7 => f_Md_takeRule_343 N kb kx380 s_self v1 v2 v3 v4 v7) N s_self 0
      else
        f_Md_takeRule_286 N kb kx380 s_self v1 v2 v3 v4
  else
    ck ((s_self 0 25) - 1) 4 <| nm (st2 s_self 11 (Int32.toNatClampNeg ((s_self 0 25) - 1)) (v4 - v6)) fun s_self_5 =>
    if (s_self_5 0 25) = 0 then
      f_Md_takeRule_286 N kb kx380 s_self_5 v1 v2 v3 v4
    else
      if v4 ≤ v6 then
        l_Md_takeRule_306 N v1 v2 v3 v4 (fun s_self v7 => f_Md_takeRule_343 N kb kx380 s_self v1 v2 v3 v4 v7) N s_self_5 0
      else
        f_Md_takeRule_286 N kb kx380 s_self_5 v1 v2 v3 v4
set_option maxHeartbeats 4000000 in
set_option maxRecDepth 100000 in
theorem t_Md_takeRule_249 {p : Program} {l : Launch} {e : Env} {s : State} {m : MethodId} {args : Array Value} {below : List Frame} {meth : Method} {c : Code} {A : Nat → Prop} {D : va_G} {K : Nat → ClassId} (a_self a_least : Nat → Nat) (X : gx p s m args c b_Md_takeRule 8 R_Md w_Md_takeRule D classes (tyK K) A) (hr : meth.sig.returnType = none) (hlk : meth.locks = false) (N : Nat) (f_self : Nat → Nat → Int32) (s_self : Nat → Nat → Int32) (v1 v2 v3 v4 v6 : Int32) (kb : (Nat → Nat → Int32) → Int32 → Option ((Nat → Nat → Int32))) (hkb : ∀ (s_self : Nat → Nat → Int32) (v5 : Int32), kb s_self v5 = some f_self → Gd p l e rm_Md_takeRule s m args below meth c 0 0 (MQ below (sq D classes (tyK K) none [wd_Md K a_self (a_least 0) f_self] A) args s 0 0 A) D classes A 8 209 [wd_Md K a_self (a_least 0) s_self] [(0, .ref (a_self 0)), (1, .int v1), (2, .int v2), (3, .int v3), (4, .int v4), (5, .int v5)] []) (kx380 : (Nat → Nat → Int32) → Option ((Nat → Nat → Int32))) (hkx380 : ∀ (s_self : Nat → Nat → Int32), kx380 s_self = some f_self → Gd p l e rm_Md_takeRule s m args below meth c 0 0 (MQ below (sq D classes (tyK K) none [wd_Md K a_self (a_least 0) f_self] A) args s 0 0 A) D classes A 8 380 [wd_Md K a_self (a_least 0) s_self] [] []) (h : f_Md_takeRule_249 N kb kx380 s_self v1 v2 v3 v4 v6 = some f_self) : Gd p l e rm_Md_takeRule s m args below meth c 0 0 (MQ below (sq D classes (tyK K) none [wd_Md K a_self (a_least 0) f_self] A) args s 0 0 A) D classes A 8 249 [wd_Md K a_self (a_least 0) s_self] [(0, .ref (a_self 0)), (1, .int v1), (2, .int v2), (3, .int v3), (4, .int v4), (6, .int v6)] [] := by
  unfold f_Md_takeRule_249 at h
  refine gd_aload_n X d_Md_takeRule_249 0 rfl ?_
  refine gd_get X (ci := 7) (C := R_Md) (T := F_Md) (N := 36) (v := .int (s_self 0 25)) 0 0 rfl rfl rfl (in_Md _) 25 (by decide) (List.mem_cons_of_mem _ fl_Md_135) rfl rfl d_Md_takeRule_250 ?_
  refine gd_if_le X (tgt := 272) d_Md_takeRule_253 (by decide) (fun c_1 => ?_) (fun c_1 => ?_)
  · replace h := it_p c_1 h
    refine gd_aload_n X d_Md_takeRule_272 0 rfl ?_
    refine gd_get X (ci := 7) (C := R_Md) (T := F_Md) (N := 36) (v := .int (s_self 0 25)) 0 0 rfl rfl rfl (in_Md _) 25 (by decide) (List.mem_cons_of_mem _ fl_Md_135) rfl rfl d_Md_takeRule_273 ?_
    refine gd_if_eq X (tgt := 286) d_Md_takeRule_276 (by decide) (fun c_2 => ?_) (fun c_2 => ?_)
    · replace h := it_p c_2 h
      refine gd_loc (lv' := [(0, .ref (a_self 0)), (1, .int v1), (2, .int v2), (3, .int v3), (4, .int v4)]) [0, 1, 2, 3, 4] rfl ?_
      exact t_Md_takeRule_286 a_self a_least X hr hlk N f_self s_self v1 v2 v3 v4 kb hkb kx380 hkx380 h
    · replace h := it_n c_2 h
      refine gd_iload X d_Md_takeRule_279 4 rfl ?_
      refine gd_iload X d_Md_takeRule_281 5 rfl ?_
      refine gd_icmp_le X (tgt := 303) d_Md_takeRule_283 (by decide) (fun c_3 => ?_) (fun c_3 => ?_)
      · replace h := it_p c_3 h
        refine gd_iconst X (v := 0) d_Md_takeRule_303 (by decide) ?_
        refine gd_istore X (lv' := [(7, .int 0), (0, .ref (a_self 0)), (1, .int v1), (2, .int v2), (3, .int v3), (4, .int v4), (6, .int v6)]) d_Md_takeRule_304 (by decide) rfl ?_
        refine gd_loc (lv' := [(0, .ref (a_self 0)), (1, .int v1), (2, .int v2), (3, .int v3), (4, .int v4), (7, .int 0)]) [1, 2, 3, 4, 5, 0] rfl ?_
        exact tl_Md_takeRule_306 a_self a_least X hr hlk N f_self v1 v2 v3 v4 (fun s_self v7 => f_Md_takeRule_343 N kb kx380 s_self v1 v2 v3 v4 v7) (fun s_self v7 h => t_Md_takeRule_343 a_self a_least X hr hlk N f_self s_self v1 v2 v3 v4 v7 kb hkb kx380 hkx380 h) N s_self 0 h
      · replace h := it_n c_3 h
        refine gd_loc (lv' := [(0, .ref (a_self 0)), (1, .int v1), (2, .int v2), (3, .int v3), (4, .int v4)]) [0, 1, 2, 3, 4] rfl ?_
        exact t_Md_takeRule_286 a_self a_least X hr hlk N f_self s_self v1 v2 v3 v4 kb hkb kx380 hkx380 h
  · replace h := it_n c_1 h
    refine gd_aload_n X d_Md_takeRule_256 0 rfl ?_
    refine gd_get X (ci := 7) (C := R_Md) (T := F_Md) (N := 36) (v := .ref (a_self 11)) 0 0 rfl rfl rfl (in_Md _) 20 (by decide) (List.mem_cons_of_mem _ fl_Md_45) rfl rfl d_Md_takeRule_257 ?_
    refine gd_aload_n X d_Md_takeRule_260 0 rfl ?_
    refine gd_get X (ci := 7) (C := R_Md) (T := F_Md) (N := 36) (v := .int (s_self 0 25)) 0 0 rfl rfl rfl (in_Md _) 25 (by decide) (List.mem_cons_of_mem _ fl_Md_135) rfl rfl d_Md_takeRule_261 ?_
    refine gd_iconst X (v := 1) d_Md_takeRule_264 (by decide) ?_
    refine gd_isub X d_Md_takeRule_265 ?_
    refine gd_iload X d_Md_takeRule_266 4 rfl ?_
    refine gd_iload X d_Md_takeRule_268 5 rfl ?_
    refine gd_isub X d_Md_takeRule_270 ?_
    obtain ⟨hi_4, h⟩ := ck_e h
    obtain ⟨s_self_5, es_self_5, h⟩ := nm_e' h
    refine gd_iast X (w' := [wd_Md K a_self (a_least 0) s_self_5]) 0 11 0 rfl rfl rfl hi_4 d_Md_takeRule_271 (by rw [es_self_5]; rfl) ?_
    refine gd_aload_n X d_Md_takeRule_272 0 rfl ?_
    refine gd_get X (ci := 7) (C := R_Md) (T := F_Md) (N := 36) (v := .int (s_self_5 0 25)) 0 0 rfl rfl rfl (in_Md _) 25 (by decide) (List.mem_cons_of_mem _ fl_Md_135) rfl rfl d_Md_takeRule_273 ?_
    refine gd_if_eq X (tgt := 286) d_Md_takeRule_276 (by decide) (fun c_6 => ?_) (fun c_6 => ?_)
    · replace h := it_p c_6 h
      refine gd_loc (lv' := [(0, .ref (a_self 0)), (1, .int v1), (2, .int v2), (3, .int v3), (4, .int v4)]) [0, 1, 2, 3, 4] rfl ?_
      exact t_Md_takeRule_286 a_self a_least X hr hlk N f_self s_self_5 v1 v2 v3 v4 kb hkb kx380 hkx380 h
    · replace h := it_n c_6 h
      refine gd_iload X d_Md_takeRule_279 4 rfl ?_
      refine gd_iload X d_Md_takeRule_281 5 rfl ?_
      refine gd_icmp_le X (tgt := 303) d_Md_takeRule_283 (by decide) (fun c_7 => ?_) (fun c_7 => ?_)
      · replace h := it_p c_7 h
        refine gd_iconst X (v := 0) d_Md_takeRule_303 (by decide) ?_
        refine gd_istore X (lv' := [(7, .int 0), (0, .ref (a_self 0)), (1, .int v1), (2, .int v2), (3, .int v3), (4, .int v4), (6, .int v6)]) d_Md_takeRule_304 (by decide) rfl ?_
        refine gd_loc (lv' := [(0, .ref (a_self 0)), (1, .int v1), (2, .int v2), (3, .int v3), (4, .int v4), (7, .int 0)]) [1, 2, 3, 4, 5, 0] rfl ?_
        exact tl_Md_takeRule_306 a_self a_least X hr hlk N f_self v1 v2 v3 v4 (fun s_self v7 => f_Md_takeRule_343 N kb kx380 s_self v1 v2 v3 v4 v7) (fun s_self v7 h => t_Md_takeRule_343 a_self a_least X hr hlk N f_self s_self v1 v2 v3 v4 v7 kb hkb kx380 hkx380 h) N s_self_5 0 h
      · replace h := it_n c_7 h
        refine gd_loc (lv' := [(0, .ref (a_self 0)), (1, .int v1), (2, .int v2), (3, .int v3), (4, .int v4)]) [0, 1, 2, 3, 4] rfl ?_
        exact t_Md_takeRule_286 a_self a_least X hr hlk N f_self s_self_5 v1 v2 v3 v4 kb hkb kx380 hkx380 h
def l_Md_takeRule_220 (N : Nat) (s_self : Nat → Nat → Int32) (v1 v2 v3 v4 : Int32) (kx249 : Int32 → Option ((Nat → Nat → Int32))) : Nat → Int32 → Int32 → Option ((Nat → Nat → Int32))
  | 0, _, _ => none
  | n + 1, v6, v7 => f_Md_takeRule_220 N (l_Md_takeRule_220 N s_self v1 v2 v3 v4 kx249 n) kx249 s_self v1 v2 v3 v4 v6 v7
set_option maxHeartbeats 4000000 in
set_option maxRecDepth 100000 in
theorem tl_Md_takeRule_220 {p : Program} {l : Launch} {e : Env} {s : State} {m : MethodId} {args : Array Value} {below : List Frame} {meth : Method} {c : Code} {A : Nat → Prop} {D : va_G} {K : Nat → ClassId} (a_self a_least : Nat → Nat) (X : gx p s m args c b_Md_takeRule 8 R_Md w_Md_takeRule D classes (tyK K) A) (hr : meth.sig.returnType = none) (hlk : meth.locks = false) (N : Nat) (f_self : Nat → Nat → Int32) (s_self : Nat → Nat → Int32) (v1 v2 v3 v4 : Int32) (kx249 : Int32 → Option ((Nat → Nat → Int32))) (hkx249 : ∀ (v6 : Int32), kx249 v6 = some f_self → Gd p l e rm_Md_takeRule s m args below meth c 0 0 (MQ below (sq D classes (tyK K) none [wd_Md K a_self (a_least 0) f_self] A) args s 0 0 A) D classes A 8 249 [wd_Md K a_self (a_least 0) s_self] [(0, .ref (a_self 0)), (1, .int v1), (2, .int v2), (3, .int v3), (4, .int v4), (6, .int v6)] []) : ∀ (n : Nat) (v6 v7 : Int32), l_Md_takeRule_220 N s_self v1 v2 v3 v4 kx249 n v6 v7 = some f_self → Gd p l e rm_Md_takeRule s m args below meth c 0 0 (MQ below (sq D classes (tyK K) none [wd_Md K a_self (a_least 0) f_self] A) args s 0 0 A) D classes A 8 220 [wd_Md K a_self (a_least 0) s_self] [(0, .ref (a_self 0)), (1, .int v1), (2, .int v2), (3, .int v3), (4, .int v4), (6, .int v6), (7, .int v7)] [] := by
  intro n
  induction n with
  | zero => intro v6 v7 h; have h : (none : Option ((Nat → Nat → Int32))) = some _ := h; cases h
  | succ n ih =>
    intro v6 v7 h
    exact t_Md_takeRule_220 a_self a_least X hr hlk N f_self s_self v1 v2 v3 v4 v6 v7 (l_Md_takeRule_220 N s_self v1 v2 v3 v4 kx249 n) ih kx249 hkx249 h
def f_Md_takeRule_209 (N : Nat) (kb : (Nat → Nat → Int32) → Int32 → Option ((Nat → Nat → Int32))) (kx380 : (Nat → Nat → Int32) → Option ((Nat → Nat → Int32))) (s_self : Nat → Nat → Int32) (v1 v2 v3 v4 v5 : Int32) : Option ((Nat → Nat → Int32)) :=
  if v5 = 0 then
    kx380 s_self
  else
    l_Md_takeRule_220 N s_self v1 v2 v3 v4 (fun v6 => f_Md_takeRule_249 N kb kx380 s_self v1 v2 v3 v4 v6) N 0 0
set_option maxHeartbeats 4000000 in
set_option maxRecDepth 100000 in
theorem t_Md_takeRule_209 {p : Program} {l : Launch} {e : Env} {s : State} {m : MethodId} {args : Array Value} {below : List Frame} {meth : Method} {c : Code} {A : Nat → Prop} {D : va_G} {K : Nat → ClassId} (a_self a_least : Nat → Nat) (X : gx p s m args c b_Md_takeRule 8 R_Md w_Md_takeRule D classes (tyK K) A) (hr : meth.sig.returnType = none) (hlk : meth.locks = false) (N : Nat) (f_self : Nat → Nat → Int32) (s_self : Nat → Nat → Int32) (v1 v2 v3 v4 v5 : Int32) (kb : (Nat → Nat → Int32) → Int32 → Option ((Nat → Nat → Int32))) (hkb : ∀ (s_self : Nat → Nat → Int32) (v5 : Int32), kb s_self v5 = some f_self → Gd p l e rm_Md_takeRule s m args below meth c 0 0 (MQ below (sq D classes (tyK K) none [wd_Md K a_self (a_least 0) f_self] A) args s 0 0 A) D classes A 8 209 [wd_Md K a_self (a_least 0) s_self] [(0, .ref (a_self 0)), (1, .int v1), (2, .int v2), (3, .int v3), (4, .int v4), (5, .int v5)] []) (kx380 : (Nat → Nat → Int32) → Option ((Nat → Nat → Int32))) (hkx380 : ∀ (s_self : Nat → Nat → Int32), kx380 s_self = some f_self → Gd p l e rm_Md_takeRule s m args below meth c 0 0 (MQ below (sq D classes (tyK K) none [wd_Md K a_self (a_least 0) f_self] A) args s 0 0 A) D classes A 8 380 [wd_Md K a_self (a_least 0) s_self] [] []) (h : f_Md_takeRule_209 N kb kx380 s_self v1 v2 v3 v4 v5 = some f_self) : Gd p l e rm_Md_takeRule s m args below meth c 0 0 (MQ below (sq D classes (tyK K) none [wd_Md K a_self (a_least 0) f_self] A) args s 0 0 A) D classes A 8 209 [wd_Md K a_self (a_least 0) s_self] [(0, .ref (a_self 0)), (1, .int v1), (2, .int v2), (3, .int v3), (4, .int v4), (5, .int v5)] [] := by
  unfold f_Md_takeRule_209 at h
  refine gd_iload X d_Md_takeRule_209 5 rfl ?_
  refine gd_if_eq X (tgt := 380) d_Md_takeRule_211 (by decide) (fun c_1 => ?_) (fun c_1 => ?_)
  · replace h := it_p c_1 h
    refine gd_loc (lv' := []) [] rfl ?_
    exact hkx380 s_self h
  · replace h := it_n c_1 h
    refine gd_iconst X (v := 0) d_Md_takeRule_214 (by decide) ?_
    refine gd_istore X (lv' := [(6, .int 0), (0, .ref (a_self 0)), (1, .int v1), (2, .int v2), (3, .int v3), (4, .int v4), (5, .int v5)]) d_Md_takeRule_215 (by decide) rfl ?_
    refine gd_iconst X (v := 0) d_Md_takeRule_217 (by decide) ?_
    refine gd_istore X (lv' := [(7, .int 0), (6, .int 0), (0, .ref (a_self 0)), (1, .int v1), (2, .int v2), (3, .int v3), (4, .int v4), (5, .int v5)]) d_Md_takeRule_218 (by decide) rfl ?_
    refine gd_loc (lv' := [(0, .ref (a_self 0)), (1, .int v1), (2, .int v2), (3, .int v3), (4, .int v4), (6, .int 0), (7, .int 0)]) [2, 3, 4, 5, 6, 1, 0] rfl ?_
    exact tl_Md_takeRule_220 a_self a_least X hr hlk N f_self s_self v1 v2 v3 v4 (fun v6 => f_Md_takeRule_249 N kb kx380 s_self v1 v2 v3 v4 v6) (fun v6 h => t_Md_takeRule_249 a_self a_least X hr hlk N f_self s_self v1 v2 v3 v4 v6 kb hkb kx380 hkx380 h) N 0 0 h
def f_Md_takeRule_380 (N : Nat) (s_self : Nat → Nat → Int32) : Option ((Nat → Nat → Int32)) :=
  some s_self
set_option maxHeartbeats 4000000 in
set_option maxRecDepth 100000 in
theorem t_Md_takeRule_380 {p : Program} {l : Launch} {e : Env} {s : State} {m : MethodId} {args : Array Value} {below : List Frame} {meth : Method} {c : Code} {A : Nat → Prop} {D : va_G} {K : Nat → ClassId} (a_self a_least : Nat → Nat) (X : gx p s m args c b_Md_takeRule 8 R_Md w_Md_takeRule D classes (tyK K) A) (hr : meth.sig.returnType = none) (hlk : meth.locks = false) (N : Nat) (f_self : Nat → Nat → Int32) (s_self : Nat → Nat → Int32) (h : f_Md_takeRule_380 N s_self = some f_self) : Gd p l e rm_Md_takeRule s m args below meth c 0 0 (MQ below (sq D classes (tyK K) none [wd_Md K a_self (a_least 0) f_self] A) args s 0 0 A) D classes A 8 380 [wd_Md K a_self (a_least 0) s_self] [] [] := by
  unfold f_Md_takeRule_380 at h
  cases h
  exact gd_vret X hr hlk d_Md_takeRule_380
def l_Md_takeRule_209 (N : Nat) (v1 v2 v3 v4 : Int32) (kx380 : (Nat → Nat → Int32) → Option ((Nat → Nat → Int32))) : Nat → (Nat → Nat → Int32) → Int32 → Option ((Nat → Nat → Int32))
  | 0, _, _ => none
  | n + 1, s_self, v5 => f_Md_takeRule_209 N (l_Md_takeRule_209 N v1 v2 v3 v4 kx380 n) kx380 s_self v1 v2 v3 v4 v5
set_option maxHeartbeats 4000000 in
set_option maxRecDepth 100000 in
theorem tl_Md_takeRule_209 {p : Program} {l : Launch} {e : Env} {s : State} {m : MethodId} {args : Array Value} {below : List Frame} {meth : Method} {c : Code} {A : Nat → Prop} {D : va_G} {K : Nat → ClassId} (a_self a_least : Nat → Nat) (X : gx p s m args c b_Md_takeRule 8 R_Md w_Md_takeRule D classes (tyK K) A) (hr : meth.sig.returnType = none) (hlk : meth.locks = false) (N : Nat) (f_self : Nat → Nat → Int32) (v1 v2 v3 v4 : Int32) (kx380 : (Nat → Nat → Int32) → Option ((Nat → Nat → Int32))) (hkx380 : ∀ (s_self : Nat → Nat → Int32), kx380 s_self = some f_self → Gd p l e rm_Md_takeRule s m args below meth c 0 0 (MQ below (sq D classes (tyK K) none [wd_Md K a_self (a_least 0) f_self] A) args s 0 0 A) D classes A 8 380 [wd_Md K a_self (a_least 0) s_self] [] []) : ∀ (n : Nat) (s_self : Nat → Nat → Int32) (v5 : Int32), l_Md_takeRule_209 N v1 v2 v3 v4 kx380 n s_self v5 = some f_self → Gd p l e rm_Md_takeRule s m args below meth c 0 0 (MQ below (sq D classes (tyK K) none [wd_Md K a_self (a_least 0) f_self] A) args s 0 0 A) D classes A 8 209 [wd_Md K a_self (a_least 0) s_self] [(0, .ref (a_self 0)), (1, .int v1), (2, .int v2), (3, .int v3), (4, .int v4), (5, .int v5)] [] := by
  intro n
  induction n with
  | zero => intro s_self v5 h; have h : (none : Option ((Nat → Nat → Int32))) = some _ := h; cases h
  | succ n ih =>
    intro s_self v5 h
    exact t_Md_takeRule_209 a_self a_least X hr hlk N f_self s_self v1 v2 v3 v4 v5 (l_Md_takeRule_209 N v1 v2 v3 v4 kx380 n) ih kx380 hkx380 h
def f_Md_takeRule_206 (N : Nat) (s_self : Nat → Nat → Int32) (v1 v2 v3 v4 : Int32) : Option ((Nat → Nat → Int32)) :=
  l_Md_takeRule_209 N v1 v2 v3 v4 (fun s_self => f_Md_takeRule_380 N s_self) N s_self 1
set_option maxHeartbeats 4000000 in
set_option maxRecDepth 100000 in
theorem t_Md_takeRule_206 {p : Program} {l : Launch} {e : Env} {s : State} {m : MethodId} {args : Array Value} {below : List Frame} {meth : Method} {c : Code} {A : Nat → Prop} {D : va_G} {K : Nat → ClassId} (a_self a_least : Nat → Nat) (X : gx p s m args c b_Md_takeRule 8 R_Md w_Md_takeRule D classes (tyK K) A) (hr : meth.sig.returnType = none) (hlk : meth.locks = false) (N : Nat) (f_self : Nat → Nat → Int32) (s_self : Nat → Nat → Int32) (v1 v2 v3 v4 : Int32) (h : f_Md_takeRule_206 N s_self v1 v2 v3 v4 = some f_self) : Gd p l e rm_Md_takeRule s m args below meth c 0 0 (MQ below (sq D classes (tyK K) none [wd_Md K a_self (a_least 0) f_self] A) args s 0 0 A) D classes A 8 206 [wd_Md K a_self (a_least 0) s_self] [(0, .ref (a_self 0)), (1, .int v1), (2, .int v2), (3, .int v3), (4, .int v4)] [] := by
  unfold f_Md_takeRule_206 at h
  refine gd_iconst X (v := 1) d_Md_takeRule_206 (by decide) ?_
  refine gd_istore X (lv' := [(5, .int 1), (0, .ref (a_self 0)), (1, .int v1), (2, .int v2), (3, .int v3), (4, .int v4)]) d_Md_takeRule_207 (by decide) rfl ?_
  refine gd_loc (lv' := [(0, .ref (a_self 0)), (1, .int v1), (2, .int v2), (3, .int v3), (4, .int v4), (5, .int 1)]) [1, 2, 3, 4, 5, 0] rfl ?_
  exact tl_Md_takeRule_209 a_self a_least X hr hlk N f_self v1 v2 v3 v4 (fun s_self => f_Md_takeRule_380 N s_self) (fun s_self h => t_Md_takeRule_380 a_self a_least X hr hlk N f_self s_self h) N s_self 1 h
def l_Md_takeRule_183 (N : Nat) (v1 v2 v3 v4 : Int32) (kx206 : (Nat → Nat → Int32) → Option ((Nat → Nat → Int32))) : Nat → (Nat → Nat → Int32) → Int32 → Option ((Nat → Nat → Int32))
  | 0, _, _ => none
  | n + 1, s_self, v5 => f_Md_takeRule_183 N (l_Md_takeRule_183 N v1 v2 v3 v4 kx206 n) kx206 s_self v1 v2 v3 v4 v5
set_option maxHeartbeats 4000000 in
set_option maxRecDepth 100000 in
theorem tl_Md_takeRule_183 {p : Program} {l : Launch} {e : Env} {s : State} {m : MethodId} {args : Array Value} {below : List Frame} {meth : Method} {c : Code} {A : Nat → Prop} {D : va_G} {K : Nat → ClassId} (a_self a_least : Nat → Nat) (X : gx p s m args c b_Md_takeRule 8 R_Md w_Md_takeRule D classes (tyK K) A) (hr : meth.sig.returnType = none) (hlk : meth.locks = false) (N : Nat) (f_self : Nat → Nat → Int32) (v1 v2 v3 v4 : Int32) (kx206 : (Nat → Nat → Int32) → Option ((Nat → Nat → Int32))) (hkx206 : ∀ (s_self : Nat → Nat → Int32), kx206 s_self = some f_self → Gd p l e rm_Md_takeRule s m args below meth c 0 0 (MQ below (sq D classes (tyK K) none [wd_Md K a_self (a_least 0) f_self] A) args s 0 0 A) D classes A 8 206 [wd_Md K a_self (a_least 0) s_self] [(0, .ref (a_self 0)), (1, .int v1), (2, .int v2), (3, .int v3), (4, .int v4)] []) : ∀ (n : Nat) (s_self : Nat → Nat → Int32) (v5 : Int32), l_Md_takeRule_183 N v1 v2 v3 v4 kx206 n s_self v5 = some f_self → Gd p l e rm_Md_takeRule s m args below meth c 0 0 (MQ below (sq D classes (tyK K) none [wd_Md K a_self (a_least 0) f_self] A) args s 0 0 A) D classes A 8 183 [wd_Md K a_self (a_least 0) s_self] [(0, .ref (a_self 0)), (1, .int v1), (2, .int v2), (3, .int v3), (4, .int v4), (5, .int v5)] [] := by
  intro n
  induction n with
  | zero => intro s_self v5 h; have h : (none : Option ((Nat → Nat → Int32))) = some _ := h; cases h
  | succ n ih =>
    intro s_self v5 h
    exact t_Md_takeRule_183 a_self a_least X hr hlk N f_self s_self v1 v2 v3 v4 v5 (l_Md_takeRule_183 N v1 v2 v3 v4 kx206 n) ih kx206 hkx206 h
def f_Md_takeRule_141 (N : Nat) (s_self : Nat → Nat → Int32) (v1 v2 v3 : Int32) : Option ((Nat → Nat → Int32)) :=
  ck v1 31 <|
  nm ((v3 - v2) - ((s_self 3 (Int32.toNatClampNeg v1)) - (s_self 0 25))) fun v4_2 =>
  if v4_2 < (s_self 0 25) then
    some s_self
  else
    if (s_self 0 25) = 0 then
      if v4_2 ≤ 0 then
        l_Md_takeRule_183 N v1 v2 v3 v4_2 (fun s_self => f_Md_takeRule_206 N s_self v1 v2 v3 v4_2) N s_self 0
      else
        some s_self
    else
      l_Md_takeRule_183 N v1 v2 v3 v4_2 (fun s_self => f_Md_takeRule_206 N s_self v1 v2 v3 v4_2) N s_self 0
set_option maxHeartbeats 4000000 in
set_option maxRecDepth 100000 in
theorem t_Md_takeRule_141 {p : Program} {l : Launch} {e : Env} {s : State} {m : MethodId} {args : Array Value} {below : List Frame} {meth : Method} {c : Code} {A : Nat → Prop} {D : va_G} {K : Nat → ClassId} (a_self a_least : Nat → Nat) (X : gx p s m args c b_Md_takeRule 8 R_Md w_Md_takeRule D classes (tyK K) A) (hr : meth.sig.returnType = none) (hlk : meth.locks = false) (N : Nat) (f_self : Nat → Nat → Int32) (s_self : Nat → Nat → Int32) (v1 v2 v3 : Int32) (h : f_Md_takeRule_141 N s_self v1 v2 v3 = some f_self) : Gd p l e rm_Md_takeRule s m args below meth c 0 0 (MQ below (sq D classes (tyK K) none [wd_Md K a_self (a_least 0) f_self] A) args s 0 0 A) D classes A 8 141 [wd_Md K a_self (a_least 0) s_self] [(0, .ref (a_self 0)), (1, .int v1), (2, .int v2), (3, .int v3)] [] := by
  unfold f_Md_takeRule_141 at h
  refine gd_iload_n X d_Md_takeRule_141 3 rfl ?_
  refine gd_iload_n X d_Md_takeRule_142 2 rfl ?_
  refine gd_isub X d_Md_takeRule_143 ?_
  refine gd_aload_n X d_Md_takeRule_144 0 rfl ?_
  refine gd_get X (ci := 7) (C := R_Md) (T := F_Md) (N := 36) (v := .ref (a_self 3)) 0 0 rfl rfl rfl (in_Md _) 7 (by decide) (List.mem_cons_of_mem _ fl_Md_16) rfl rfl d_Md_takeRule_145 ?_
  refine gd_iload_n X d_Md_takeRule_148 1 rfl ?_
  obtain ⟨hi_1, h⟩ := ck_e h
  refine gd_iald X 0 3 0 rfl rfl rfl hi_1 d_Md_takeRule_149 ?_
  refine gd_aload_n X d_Md_takeRule_150 0 rfl ?_
  refine gd_get X (ci := 7) (C := R_Md) (T := F_Md) (N := 36) (v := .int (s_self 0 25)) 0 0 rfl rfl rfl (in_Md _) 25 (by decide) (List.mem_cons_of_mem _ fl_Md_135) rfl rfl d_Md_takeRule_151 ?_
  refine gd_isub X d_Md_takeRule_154 ?_
  refine gd_isub X d_Md_takeRule_155 ?_
  obtain ⟨v4_2, ev4_2, h⟩ := nm_e' h
  refine gd_topi ev4_2 ?_
  refine gd_istore X (lv' := [(4, .int v4_2), (0, .ref (a_self 0)), (1, .int v1), (2, .int v2), (3, .int v3)]) d_Md_takeRule_156 (by decide) rfl ?_
  refine gd_iload X d_Md_takeRule_158 0 rfl ?_
  refine gd_aload_n X d_Md_takeRule_160 1 rfl ?_
  refine gd_get X (ci := 7) (C := R_Md) (T := F_Md) (N := 36) (v := .int (s_self 0 25)) 0 0 rfl rfl rfl (in_Md _) 25 (by decide) (List.mem_cons_of_mem _ fl_Md_135) rfl rfl d_Md_takeRule_161 ?_
  refine gd_icmp_lt X (tgt := 179) d_Md_takeRule_164 (by decide) (fun c_3 => ?_) (fun c_3 => ?_)
  · replace h := it_p c_3 h
    cases h
    exact gd_vret X hr hlk d_Md_takeRule_179
  · replace h := it_n c_3 h
    refine gd_aload_n X d_Md_takeRule_167 1 rfl ?_
    refine gd_get X (ci := 7) (C := R_Md) (T := F_Md) (N := 36) (v := .int (s_self 0 25)) 0 0 rfl rfl rfl (in_Md _) 25 (by decide) (List.mem_cons_of_mem _ fl_Md_135) rfl rfl d_Md_takeRule_168 ?_
    refine gd_if_ne X (tgt := 180) d_Md_takeRule_171 (by decide) (fun c_4 => ?_) (fun c_4 => ?_)
    · replace h := it_n c_4 h
      refine gd_iconst X (v := 0) d_Md_takeRule_180 (by decide) ?_
      refine gd_istore X (lv' := [(5, .int 0), (4, .int v4_2), (0, .ref (a_self 0)), (1, .int v1), (2, .int v2), (3, .int v3)]) d_Md_takeRule_181 (by decide) rfl ?_
      refine gd_loc (lv' := [(0, .ref (a_self 0)), (1, .int v1), (2, .int v2), (3, .int v3), (4, .int v4_2), (5, .int 0)]) [2, 3, 4, 5, 1, 0] rfl ?_
      exact tl_Md_takeRule_183 a_self a_least X hr hlk N f_self v1 v2 v3 v4_2 (fun s_self => f_Md_takeRule_206 N s_self v1 v2 v3 v4_2) (fun s_self h => t_Md_takeRule_206 a_self a_least X hr hlk N f_self s_self v1 v2 v3 v4_2 h) N s_self 0 h
    · replace h := it_p c_4 h
      refine gd_iload X d_Md_takeRule_174 0 rfl ?_
      refine gd_if_le X (tgt := 180) d_Md_takeRule_176 (by decide) (fun c_5 => ?_) (fun c_5 => ?_)
      · replace h := it_p c_5 h
        refine gd_iconst X (v := 0) d_Md_takeRule_180 (by decide) ?_
        refine gd_istore X (lv' := [(5, .int 0), (4, .int v4_2), (0, .ref (a_self 0)), (1, .int v1), (2, .int v2), (3, .int v3)]) d_Md_takeRule_181 (by decide) rfl ?_
        refine gd_loc (lv' := [(0, .ref (a_self 0)), (1, .int v1), (2, .int v2), (3, .int v3), (4, .int v4_2), (5, .int 0)]) [2, 3, 4, 5, 1, 0] rfl ?_
        exact tl_Md_takeRule_183 a_self a_least X hr hlk N f_self v1 v2 v3 v4_2 (fun s_self => f_Md_takeRule_206 N s_self v1 v2 v3 v4_2) (fun s_self h => t_Md_takeRule_206 a_self a_least X hr hlk N f_self s_self v1 v2 v3 v4_2 h) N s_self 0 h
      · replace h := it_n c_5 h
        cases h
        exact gd_vret X hr hlk d_Md_takeRule_179
def l_Md_takeRule_17 (N : Nat) (v1 v2 v3 : Int32) (kx141 : (Nat → Nat → Int32) → Option ((Nat → Nat → Int32))) : Nat → (Nat → Nat → Int32) → Int32 → Option ((Nat → Nat → Int32))
  | 0, _, _ => none
  | n + 1, s_self, v4 => f_Md_takeRule_17 N (l_Md_takeRule_17 N v1 v2 v3 kx141 n) kx141 s_self v1 v2 v3 v4
set_option maxHeartbeats 4000000 in
set_option maxRecDepth 100000 in
theorem tl_Md_takeRule_17 {p : Program} {l : Launch} {e : Env} {s : State} {m : MethodId} {args : Array Value} {below : List Frame} {meth : Method} {c : Code} {A : Nat → Prop} {D : va_G} {K : Nat → ClassId} (a_self a_least : Nat → Nat) (X : gx p s m args c b_Md_takeRule 8 R_Md w_Md_takeRule D classes (tyK K) A) (hr : meth.sig.returnType = none) (hlk : meth.locks = false) (N : Nat) (f_self : Nat → Nat → Int32) (v1 v2 v3 : Int32) (kx141 : (Nat → Nat → Int32) → Option ((Nat → Nat → Int32))) (hkx141 : ∀ (s_self : Nat → Nat → Int32), kx141 s_self = some f_self → Gd p l e rm_Md_takeRule s m args below meth c 0 0 (MQ below (sq D classes (tyK K) none [wd_Md K a_self (a_least 0) f_self] A) args s 0 0 A) D classes A 8 141 [wd_Md K a_self (a_least 0) s_self] [(0, .ref (a_self 0)), (1, .int v1), (2, .int v2), (3, .int v3)] []) : ∀ (n : Nat) (s_self : Nat → Nat → Int32) (v4 : Int32), l_Md_takeRule_17 N v1 v2 v3 kx141 n s_self v4 = some f_self → Gd p l e rm_Md_takeRule s m args below meth c 0 0 (MQ below (sq D classes (tyK K) none [wd_Md K a_self (a_least 0) f_self] A) args s 0 0 A) D classes A 8 17 [wd_Md K a_self (a_least 0) s_self] [(0, .ref (a_self 0)), (1, .int v1), (2, .int v2), (3, .int v3), (4, .int v4)] [] := by
  intro n
  induction n with
  | zero => intro s_self v4 h; have h : (none : Option ((Nat → Nat → Int32))) = some _ := h; cases h
  | succ n ih =>
    intro s_self v4 h
    exact t_Md_takeRule_17 a_self a_least X hr hlk N f_self s_self v1 v2 v3 v4 (l_Md_takeRule_17 N v1 v2 v3 kx141 n) ih kx141 hkx141 h
def f_Md_takeRule_0 (N : Nat) (s_self : Nat → Nat → Int32) (v1 v2 v3 : Int32) : Option ((Nat → Nat → Int32)) :=
  bd1 (m_Md_variablesIn N s_self v1) fun r_1 =>
  nm (st2 s_self 0 25 r_1) fun s_self_3 =>
  nm (st2 s_self_3 0 26 0) fun s_self_4 =>
  l_Md_takeRule_17 N v1 v2 v3 (fun s_self => f_Md_takeRule_141 N s_self v1 v2 v3) N s_self_4 0
set_option maxHeartbeats 4000000 in
set_option maxRecDepth 100000 in
theorem t_Md_takeRule_0 {p : Program} {l : Launch} {e : Env} {s : State} {m : MethodId} {args : Array Value} {below : List Frame} {meth : Method} {c : Code} {A : Nat → Prop} {D : va_G} {K : Nat → ClassId} (a_self a_least : Nat → Nat) (X : gx p s m args c b_Md_takeRule 8 R_Md w_Md_takeRule D classes (tyK K) A) (hr : meth.sig.returnType = none) (hlk : meth.locks = false) (N : Nat) (f_self : Nat → Nat → Int32) (s_self : Nat → Nat → Int32) (v1 v2 v3 : Int32) (h : f_Md_takeRule_0 N s_self v1 v2 v3 = some f_self) : Gd p l e rm_Md_takeRule s m args below meth c 0 0 (MQ below (sq D classes (tyK K) none [wd_Md K a_self (a_least 0) f_self] A) args s 0 0 A) D classes A 8 0 [wd_Md K a_self (a_least 0) s_self] [(0, .ref (a_self 0)), (1, .int v1), (2, .int v2), (3, .int v3)] [] := by
  unfold f_Md_takeRule_0 at h
  refine gd_aload_n X d_Md_takeRule_0 0 rfl ?_
  refine gd_aload_n X d_Md_takeRule_1 0 rfl ?_
  refine gd_iload_n X d_Md_takeRule_2 1 rfl ?_
  obtain ⟨r_1, hc_2, h⟩ := bd1_e h
  refine gd_fI X (gd_V X (As := [.int v1]) (rest := [.ref (a_self 0)]) (c_Md_variablesIn l D K a_self a_least N s_self v1 r_1 hc_2) 1 (gi_V ml_Md_112 u_Md_variablesIn) rfl ⟨rfl, rfl⟩ (by decide +kernel) ⟨by decide, by decide⟩ (ci := 7) rfl rfl rfl rfl rfl rfl (Nat.le_of_ble_eq_true rfl) ⟨Nat.zero_le _, Nat.zero_le _⟩ d_Md_takeRule_3) ?_
  obtain ⟨s_self_3, es_self_3, h⟩ := nm_e' h
  refine gd_put X (ci := 7) (C := R_Md) (T := F_Md) (N := 36) (ty := .int) (w' := [wd_Md K a_self (a_least 0) s_self_3]) 0 0 rfl rfl rfl (in_Md _) t_Md t_Md_ok n_Md 25 (by decide) (List.mem_cons_of_mem _ fl_Md_135) rfl rfl (by decide +kernel) rfl rfl (Nat.le_of_ble_eq_true rfl) d_Md_takeRule_6 (by rw [es_self_3]; rfl) ?_
  refine gd_aload_n X d_Md_takeRule_9 0 rfl ?_
  refine gd_iconst X (v := 0) d_Md_takeRule_10 (by decide) ?_
  obtain ⟨s_self_4, es_self_4, h⟩ := nm_e' h
  refine gd_put X (ci := 7) (C := R_Md) (T := F_Md) (N := 36) (ty := .int) (w' := [wd_Md K a_self (a_least 0) s_self_4]) 0 0 rfl rfl rfl (in_Md _) t_Md t_Md_ok n_Md 26 (by decide) (List.mem_cons_of_mem _ fl_Md_142) rfl rfl (by decide +kernel) rfl rfl (Nat.le_of_ble_eq_true rfl) d_Md_takeRule_11 (by rw [es_self_4]; rfl) ?_
  refine gd_iconst X (v := 0) d_Md_takeRule_14 (by decide) ?_
  refine gd_istore X (lv' := [(4, .int 0), (0, .ref (a_self 0)), (1, .int v1), (2, .int v2), (3, .int v3)]) d_Md_takeRule_15 (by decide) rfl ?_
  refine gd_loc (lv' := [(0, .ref (a_self 0)), (1, .int v1), (2, .int v2), (3, .int v3), (4, .int 0)]) [1, 2, 3, 4, 0] rfl ?_
  exact tl_Md_takeRule_17 a_self a_least X hr hlk N f_self v1 v2 v3 (fun s_self => f_Md_takeRule_141 N s_self v1 v2 v3) (fun s_self h => t_Md_takeRule_141 a_self a_least X hr hlk N f_self s_self v1 v2 v3 h) N s_self_4 0 h
def m_Md_takeRule (N : Nat) (s_self : Nat → Nat → Int32) (v1 v2 v3 : Int32) : Option ((Nat → Nat → Int32)) := f_Md_takeRule_0 N s_self v1 v2 v3
set_option maxHeartbeats 4000000 in
set_option maxRecDepth 100000 in
theorem c_Md_takeRule (l : Launch) (D : va_G) (K : Nat → ClassId) (a_self a_least : Nat → Nat) (N : Nat) (s_self : Nat → Nat → Int32) (v1 v2 v3 : Int32) (f_self : Nat → Nat → Int32) (h : m_Md_takeRule N s_self v1 v2 v3 = some f_self) : SMet l y_Md_takeRule w_Md_takeRule rm_Md_takeRule D classes (tyK K) [.ref (a_self 0), .int v1, .int v2, .int v3] none [wd_Md K a_self (a_least 0) s_self] [wd_Md K a_self (a_least 0) f_self] := by
  refine sm_of R_Md (by decide) rfl rfl (Nat.le_of_ble_eq_true rfl) ?_
  intro p e s m below meth c A X hr hlk
  refine gd_loc (lv' := [(0, .ref (a_self 0)), (1, .int v1), (2, .int v2), (3, .int v3)]) [0, 1, 2, 3] rfl ?_
  exact t_Md_takeRule_0 a_self a_least X hr hlk N f_self s_self v1 v2 v3 h
