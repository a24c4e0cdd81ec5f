def bd8 {α1 α2 α3 α4 α5 α6 α7 α8 β : Type} (x : Option (α1 × α2 × α3 × α4 × α5 × α6 × α7 × α8)) (k : α1 → α2 → α3 → α4 → α5 → α6 → α7 → α8 → Option β) : Option β := match x with | none => none | some (a1, a2, a3, a4, a5, a6, a7, a8) => k a1 a2 a3 a4 a5 a6 a7 a8
theorem bd8_e {α1 α2 α3 α4 α5 α6 α7 α8 β : Type} {x : Option (α1 × α2 × α3 × α4 × α5 × α6 × α7 × α8)} {k : α1 → α2 → α3 → α4 → α5 → α6 → α7 → α8 → Option β} {r : β} (h : bd8 x k = some r) : ∃ a1 a2 a3 a4 a5 a6 a7 a8, x = some (a1, a2, a3, a4, a5, a6, a7, a8) ∧ k a1 a2 a3 a4 a5 a6 a7 a8 = some r := by
  cases x with
  | none => cases h
  | some z => obtain ⟨a1, a2, a3, a4, a5, a6, a7, a8⟩ := z; exact ⟨a1, a2, a3, a4, a5, a6, a7, a8, rfl, h⟩
def bd9 {α1 α2 α3 α4 α5 α6 α7 α8 α9 β : Type} (x : Option (α1 × α2 × α3 × α4 × α5 × α6 × α7 × α8 × α9)) (k : α1 → α2 → α3 → α4 → α5 → α6 → α7 → α8 → α9 → Option β) : Option β := match x with | none => none | some (a1, a2, a3, a4, a5, a6, a7, a8, a9) => k a1 a2 a3 a4 a5 a6 a7 a8 a9
theorem bd9_e {α1 α2 α3 α4 α5 α6 α7 α8 α9 β : Type} {x : Option (α1 × α2 × α3 × α4 × α5 × α6 × α7 × α8 × α9)} {k : α1 → α2 → α3 → α4 → α5 → α6 → α7 → α8 → α9 → Option β} {r : β} (h : bd9 x k = some r) : ∃ a1 a2 a3 a4 a5 a6 a7 a8 a9, x = some (a1, a2, a3, a4, a5, a6, a7, a8, a9) ∧ k a1 a2 a3 a4 a5 a6 a7 a8 a9 = some r := by
  cases x with
  | none => cases h
  | some z => obtain ⟨a1, a2, a3, a4, a5, a6, a7, a8, a9⟩ := z; exact ⟨a1, a2, a3, a4, a5, a6, a7, a8, a9, rfl, h⟩
def R_RuleTreesLaw : String := "RuleTreesLaw"
def w_law : List Cond := .initialized R_RuleTreesLaw :: TB
theorem d_law_0 : decode code 0 = .ok (.new 7, 3) := by decide +kernel
theorem d_law_3 : decode code 3 = .ok (.dup, 1) := by decide +kernel
theorem d_law_4 : decode code 4 = .ok (.invokespecial 9, 3) := by decide +kernel
theorem d_law_7 : decode code 7 = .ok (.astore_n 1, 1) := by decide +kernel
theorem d_law_8 : decode code 8 = .ok (.new 10, 3) := by decide +kernel
theorem d_law_11 : decode code 11 = .ok (.dup, 1) := by decide +kernel
theorem d_law_12 : decode code 12 = .ok (.invokespecial 12, 3) := by decide +kernel
theorem d_law_15 : decode code 15 = .ok (.astore_n 2, 1) := by decide +kernel
theorem d_law_16 : decode code 16 = .ok (.iconst 0, 1) := by decide +kernel
theorem d_law_17 : decode code 17 = .ok (.istore_n 3, 1) := by decide +kernel
theorem d_law_18 : decode code 18 = .ok (.iload_n 3, 1) := by decide +kernel
theorem d_law_19 : decode code 19 = .ok (.aload_n 0, 1) := by decide +kernel
theorem d_law_20 : decode code 20 = .ok (.arraylength, 1) := by decide +kernel
theorem d_law_21 : decode code 21 = .ok (.iconst 4, 1) := by decide +kernel
theorem d_law_22 : decode code 22 = .ok (.isub, 1) := by decide +kernel
theorem d_law_23 : decode code 23 = .ok (.if_icmp .gt 591, 3) := by decide +kernel
theorem d_law_26 : decode code 26 = .ok (.aload_n 0, 1) := by decide +kernel
theorem d_law_27 : decode code 27 = .ok (.iload_n 3, 1) := by decide +kernel
theorem d_law_28 : decode code 28 = .ok (.iaload, 1) := by decide +kernel
theorem d_law_29 : decode code 29 = .ok (.bipush 31, 2) := by decide +kernel
theorem d_law_31 : decode code 31 = .ok (.iand, 1) := by decide +kernel
theorem d_law_32 : decode code 32 = .ok (.tableswitch 576 0 19 #[96, 109, 132, 155, 178, 191, 214, 227, 270, 303, 346, 379, 402, 415, 438, 451, 474, 507, 540, 563], 96) := by decide +kernel
theorem d_law_128 : decode code 128 = .ok (.aload_n 1, 1) := by decide +kernel
theorem d_law_129 : decode code 129 = .ok (.invokevirtual 13, 3) := by decide +kernel
theorem d_law_132 : decode code 132 = .ok (.aload_n 2, 1) := by decide +kernel
theorem d_law_133 : decode code 133 = .ok (.invokevirtual 17, 3) := by decide +kernel
theorem d_law_136 : decode code 136 = .ok (.if_icmp .eq 472, 3) := by decide +kernel
theorem d_law_139 : decode code 139 = .ok (.iconst 0, 1) := by decide +kernel
theorem d_law_140 : decode code 140 = .ok (.ireturn, 1) := by decide +kernel
theorem d_law_141 : decode code 141 = .ok (.aload_n 1, 1) := by decide +kernel
theorem d_law_142 : decode code 142 = .ok (.aload_n 0, 1) := by decide +kernel
theorem d_law_143 : decode code 143 = .ok (.iload_n 3, 1) := by decide +kernel
theorem d_law_144 : decode code 144 = .ok (.iconst 1, 1) := by decide +kernel
theorem d_law_145 : decode code 145 = .ok (.iadd, 1) := by decide +kernel
theorem d_law_146 : decode code 146 = .ok (.iaload, 1) := by decide +kernel
theorem d_law_147 : decode code 147 = .ok (.invokevirtual 18, 3) := by decide +kernel
theorem d_law_150 : decode code 150 = .ok (.aload_n 2, 1) := by decide +kernel
theorem d_law_151 : decode code 151 = .ok (.aload_n 0, 1) := by decide +kernel
theorem d_law_152 : decode code 152 = .ok (.iload_n 3, 1) := by decide +kernel
theorem d_law_153 : decode code 153 = .ok (.iconst 1, 1) := by decide +kernel
theorem d_law_154 : decode code 154 = .ok (.iadd, 1) := by decide +kernel
theorem d_law_155 : decode code 155 = .ok (.iaload, 1) := by decide +kernel
theorem d_law_156 : decode code 156 = .ok (.invokevirtual 22, 3) := by decide +kernel
theorem d_law_159 : decode code 159 = .ok (.if_icmp .eq 449, 3) := by decide +kernel
theorem d_law_162 : decode code 162 = .ok (.iconst 0, 1) := by decide +kernel
theorem d_law_163 : decode code 163 = .ok (.ireturn, 1) := by decide +kernel
theorem d_law_164 : decode code 164 = .ok (.aload_n 1, 1) := by decide +kernel
theorem d_law_165 : decode code 165 = .ok (.aload_n 0, 1) := by decide +kernel
theorem d_law_166 : decode code 166 = .ok (.iload_n 3, 1) := by decide +kernel
theorem d_law_167 : decode code 167 = .ok (.iconst 1, 1) := by decide +kernel
theorem d_law_168 : decode code 168 = .ok (.iadd, 1) := by decide +kernel
theorem d_law_169 : decode code 169 = .ok (.iaload, 1) := by decide +kernel
theorem d_law_170 : decode code 170 = .ok (.invokevirtual 23, 3) := by decide +kernel
theorem d_law_173 : decode code 173 = .ok (.aload_n 2, 1) := by decide +kernel
theorem d_law_174 : decode code 174 = .ok (.aload_n 0, 1) := by decide +kernel
theorem d_law_175 : decode code 175 = .ok (.iload_n 3, 1) := by decide +kernel
theorem d_law_176 : decode code 176 = .ok (.iconst 1, 1) := by decide +kernel
theorem d_law_177 : decode code 177 = .ok (.iadd, 1) := by decide +kernel
theorem d_law_178 : decode code 178 = .ok (.iaload, 1) := by decide +kernel
theorem d_law_179 : decode code 179 = .ok (.invokevirtual 26, 3) := by decide +kernel
theorem d_law_182 : decode code 182 = .ok (.if_icmp .eq 426, 3) := by decide +kernel
theorem d_law_185 : decode code 185 = .ok (.iconst 0, 1) := by decide +kernel
theorem d_law_186 : decode code 186 = .ok (.ireturn, 1) := by decide +kernel
theorem d_law_187 : decode code 187 = .ok (.aload_n 1, 1) := by decide +kernel
theorem d_law_188 : decode code 188 = .ok (.aload_n 0, 1) := by decide +kernel
theorem d_law_189 : decode code 189 = .ok (.iload_n 3, 1) := by decide +kernel
theorem d_law_190 : decode code 190 = .ok (.iconst 1, 1) := by decide +kernel
theorem d_law_191 : decode code 191 = .ok (.iadd, 1) := by decide +kernel
theorem d_law_192 : decode code 192 = .ok (.iaload, 1) := by decide +kernel
theorem d_law_193 : decode code 193 = .ok (.invokevirtual 27, 3) := by decide +kernel
theorem d_law_196 : decode code 196 = .ok (.aload_n 2, 1) := by decide +kernel
theorem d_law_197 : decode code 197 = .ok (.aload_n 0, 1) := by decide +kernel
theorem d_law_198 : decode code 198 = .ok (.iload_n 3, 1) := by decide +kernel
theorem d_law_199 : decode code 199 = .ok (.iconst 1, 1) := by decide +kernel
theorem d_law_200 : decode code 200 = .ok (.iadd, 1) := by decide +kernel
theorem d_law_201 : decode code 201 = .ok (.iaload, 1) := by decide +kernel
theorem d_law_202 : decode code 202 = .ok (.invokevirtual 30, 3) := by decide +kernel
theorem d_law_205 : decode code 205 = .ok (.if_icmp .eq 403, 3) := by decide +kernel
theorem d_law_208 : decode code 208 = .ok (.iconst 0, 1) := by decide +kernel
theorem d_law_209 : decode code 209 = .ok (.ireturn, 1) := by decide +kernel
theorem d_law_210 : decode code 210 = .ok (.aload_n 1, 1) := by decide +kernel
theorem d_law_211 : decode code 211 = .ok (.invokevirtual 31, 3) := by decide +kernel
theorem d_law_214 : decode code 214 = .ok (.aload_n 2, 1) := by decide +kernel
theorem d_law_215 : decode code 215 = .ok (.invokevirtual 34, 3) := by decide +kernel
theorem d_law_218 : decode code 218 = .ok (.if_icmp .eq 390, 3) := by decide +kernel
theorem d_law_221 : decode code 221 = .ok (.iconst 0, 1) := by decide +kernel
theorem d_law_222 : decode code 222 = .ok (.ireturn, 1) := by decide +kernel
theorem d_law_223 : decode code 223 = .ok (.aload_n 1, 1) := by decide +kernel
theorem d_law_224 : decode code 224 = .ok (.aload_n 0, 1) := by decide +kernel
theorem d_law_225 : decode code 225 = .ok (.iload_n 3, 1) := by decide +kernel
theorem d_law_226 : decode code 226 = .ok (.iconst 1, 1) := by decide +kernel
theorem d_law_227 : decode code 227 = .ok (.iadd, 1) := by decide +kernel
theorem d_law_228 : decode code 228 = .ok (.iaload, 1) := by decide +kernel
theorem d_law_229 : decode code 229 = .ok (.invokevirtual 35, 3) := by decide +kernel
theorem d_law_232 : decode code 232 = .ok (.aload_n 2, 1) := by decide +kernel
theorem d_law_233 : decode code 233 = .ok (.aload_n 0, 1) := by decide +kernel
theorem d_law_234 : decode code 234 = .ok (.iload_n 3, 1) := by decide +kernel
theorem d_law_235 : decode code 235 = .ok (.iconst 1, 1) := by decide +kernel
theorem d_law_236 : decode code 236 = .ok (.iadd, 1) := by decide +kernel
theorem d_law_237 : decode code 237 = .ok (.iaload, 1) := by decide +kernel
theorem d_law_238 : decode code 238 = .ok (.invokevirtual 38, 3) := by decide +kernel
theorem d_law_241 : decode code 241 = .ok (.if_icmp .eq 367, 3) := by decide +kernel
theorem d_law_244 : decode code 244 = .ok (.iconst 0, 1) := by decide +kernel
theorem d_law_245 : decode code 245 = .ok (.ireturn, 1) := by decide +kernel
theorem d_law_246 : decode code 246 = .ok (.aload_n 1, 1) := by decide +kernel
theorem d_law_247 : decode code 247 = .ok (.invokevirtual 39, 3) := by decide +kernel
theorem d_law_250 : decode code 250 = .ok (.aload_n 2, 1) := by decide +kernel
theorem d_law_251 : decode code 251 = .ok (.invokevirtual 42, 3) := by decide +kernel
theorem d_law_254 : decode code 254 = .ok (.if_icmp .eq 354, 3) := by decide +kernel
theorem d_law_257 : decode code 257 = .ok (.iconst 0, 1) := by decide +kernel
theorem d_law_258 : decode code 258 = .ok (.ireturn, 1) := by decide +kernel
theorem d_law_259 : decode code 259 = .ok (.aload_n 1, 1) := by decide +kernel
theorem d_law_260 : decode code 260 = .ok (.aload_n 0, 1) := by decide +kernel
theorem d_law_261 : decode code 261 = .ok (.iload_n 3, 1) := by decide +kernel
theorem d_law_262 : decode code 262 = .ok (.iconst 1, 1) := by decide +kernel
theorem d_law_263 : decode code 263 = .ok (.iadd, 1) := by decide +kernel
theorem d_law_264 : decode code 264 = .ok (.iaload, 1) := by decide +kernel
theorem d_law_265 : decode code 265 = .ok (.aload_n 0, 1) := by decide +kernel
theorem d_law_266 : decode code 266 = .ok (.iload_n 3, 1) := by decide +kernel
theorem d_law_267 : decode code 267 = .ok (.iconst 2, 1) := by decide +kernel
theorem d_law_268 : decode code 268 = .ok (.iadd, 1) := by decide +kernel
theorem d_law_269 : decode code 269 = .ok (.iaload, 1) := by decide +kernel
theorem d_law_270 : decode code 270 = .ok (.aload_n 0, 1) := by decide +kernel
theorem d_law_271 : decode code 271 = .ok (.iload_n 3, 1) := by decide +kernel
theorem d_law_272 : decode code 272 = .ok (.iconst 3, 1) := by decide +kernel
theorem d_law_273 : decode code 273 = .ok (.iadd, 1) := by decide +kernel
theorem d_law_274 : decode code 274 = .ok (.iaload, 1) := by decide +kernel
theorem d_law_275 : decode code 275 = .ok (.invokevirtual 43, 3) := by decide +kernel
theorem d_law_278 : decode code 278 = .ok (.aload_n 2, 1) := by decide +kernel
theorem d_law_279 : decode code 279 = .ok (.aload_n 0, 1) := by decide +kernel
theorem d_law_280 : decode code 280 = .ok (.iload_n 3, 1) := by decide +kernel
theorem d_law_281 : decode code 281 = .ok (.iconst 1, 1) := by decide +kernel
theorem d_law_282 : decode code 282 = .ok (.iadd, 1) := by decide +kernel
theorem d_law_283 : decode code 283 = .ok (.iaload, 1) := by decide +kernel
theorem d_law_284 : decode code 284 = .ok (.aload_n 0, 1) := by decide +kernel
theorem d_law_285 : decode code 285 = .ok (.iload_n 3, 1) := by decide +kernel
theorem d_law_286 : decode code 286 = .ok (.iconst 2, 1) := by decide +kernel
theorem d_law_287 : decode code 287 = .ok (.iadd, 1) := by decide +kernel
theorem d_law_288 : decode code 288 = .ok (.iaload, 1) := by decide +kernel
theorem d_law_289 : decode code 289 = .ok (.aload_n 0, 1) := by decide +kernel
theorem d_law_290 : decode code 290 = .ok (.iload_n 3, 1) := by decide +kernel
theorem d_law_291 : decode code 291 = .ok (.iconst 3, 1) := by decide +kernel
theorem d_law_292 : decode code 292 = .ok (.iadd, 1) := by decide +kernel
theorem d_law_293 : decode code 293 = .ok (.iaload, 1) := by decide +kernel
theorem d_law_294 : decode code 294 = .ok (.invokevirtual 47, 3) := by decide +kernel
theorem d_law_297 : decode code 297 = .ok (.if_icmp .eq 311, 3) := by decide +kernel
theorem d_law_300 : decode code 300 = .ok (.iconst 0, 1) := by decide +kernel
theorem d_law_301 : decode code 301 = .ok (.ireturn, 1) := by decide +kernel
theorem d_law_302 : decode code 302 = .ok (.aload_n 1, 1) := by decide +kernel
theorem d_law_303 : decode code 303 = .ok (.aload_n 0, 1) := by decide +kernel
theorem d_law_304 : decode code 304 = .ok (.iload_n 3, 1) := by decide +kernel
theorem d_law_305 : decode code 305 = .ok (.iconst 1, 1) := by decide +kernel
theorem d_law_306 : decode code 306 = .ok (.iadd, 1) := by decide +kernel
theorem d_law_307 : decode code 307 = .ok (.iaload, 1) := by decide +kernel
theorem d_law_308 : decode code 308 = .ok (.aload_n 0, 1) := by decide +kernel
theorem d_law_309 : decode code 309 = .ok (.iload_n 3, 1) := by decide +kernel
theorem d_law_310 : decode code 310 = .ok (.iconst 2, 1) := by decide +kernel
theorem d_law_311 : decode code 311 = .ok (.iadd, 1) := by decide +kernel
theorem d_law_312 : decode code 312 = .ok (.iaload, 1) := by decide +kernel
theorem d_law_313 : decode code 313 = .ok (.invokevirtual 48, 3) := by decide +kernel
theorem d_law_316 : decode code 316 = .ok (.aload_n 2, 1) := by decide +kernel
theorem d_law_317 : decode code 317 = .ok (.aload_n 0, 1) := by decide +kernel
theorem d_law_318 : decode code 318 = .ok (.iload_n 3, 1) := by decide +kernel
theorem d_law_319 : decode code 319 = .ok (.iconst 1, 1) := by decide +kernel
theorem d_law_320 : decode code 320 = .ok (.iadd, 1) := by decide +kernel
theorem d_law_321 : decode code 321 = .ok (.iaload, 1) := by decide +kernel
theorem d_law_322 : decode code 322 = .ok (.aload_n 0, 1) := by decide +kernel
theorem d_law_323 : decode code 323 = .ok (.iload_n 3, 1) := by decide +kernel
theorem d_law_324 : decode code 324 = .ok (.iconst 2, 1) := by decide +kernel
theorem d_law_325 : decode code 325 = .ok (.iadd, 1) := by decide +kernel
theorem d_law_326 : decode code 326 = .ok (.iaload, 1) := by decide +kernel
theorem d_law_327 : decode code 327 = .ok (.invokevirtual 52, 3) := by decide +kernel
theorem d_law_330 : decode code 330 = .ok (.if_icmp .eq 278, 3) := by decide +kernel
theorem d_law_333 : decode code 333 = .ok (.iconst 0, 1) := by decide +kernel
theorem d_law_334 : decode code 334 = .ok (.ireturn, 1) := by decide +kernel
theorem d_law_335 : decode code 335 = .ok (.aload_n 1, 1) := by decide +kernel
theorem d_law_336 : decode code 336 = .ok (.aload_n 0, 1) := by decide +kernel
theorem d_law_337 : decode code 337 = .ok (.iload_n 3, 1) := by decide +kernel
theorem d_law_338 : decode code 338 = .ok (.iconst 1, 1) := by decide +kernel
theorem d_law_339 : decode code 339 = .ok (.iadd, 1) := by decide +kernel
theorem d_law_340 : decode code 340 = .ok (.iaload, 1) := by decide +kernel
theorem d_law_341 : decode code 341 = .ok (.aload_n 0, 1) := by decide +kernel
theorem d_law_342 : decode code 342 = .ok (.iload_n 3, 1) := by decide +kernel
theorem d_law_343 : decode code 343 = .ok (.iconst 2, 1) := by decide +kernel
theorem d_law_344 : decode code 344 = .ok (.iadd, 1) := by decide +kernel
theorem d_law_345 : decode code 345 = .ok (.iaload, 1) := by decide +kernel
theorem d_law_346 : decode code 346 = .ok (.aload_n 0, 1) := by decide +kernel
theorem d_law_347 : decode code 347 = .ok (.iload_n 3, 1) := by decide +kernel
theorem d_law_348 : decode code 348 = .ok (.iconst 3, 1) := by decide +kernel
theorem d_law_349 : decode code 349 = .ok (.iadd, 1) := by decide +kernel
theorem d_law_350 : decode code 350 = .ok (.iaload, 1) := by decide +kernel
theorem d_law_351 : decode code 351 = .ok (.invokevirtual 53, 3) := by decide +kernel
theorem d_law_354 : decode code 354 = .ok (.aload_n 2, 1) := by decide +kernel
theorem d_law_355 : decode code 355 = .ok (.aload_n 0, 1) := by decide +kernel
theorem d_law_356 : decode code 356 = .ok (.iload_n 3, 1) := by decide +kernel
theorem d_law_357 : decode code 357 = .ok (.iconst 1, 1) := by decide +kernel
theorem d_law_358 : decode code 358 = .ok (.iadd, 1) := by decide +kernel
theorem d_law_359 : decode code 359 = .ok (.iaload, 1) := by decide +kernel
theorem d_law_360 : decode code 360 = .ok (.aload_n 0, 1) := by decide +kernel
theorem d_law_361 : decode code 361 = .ok (.iload_n 3, 1) := by decide +kernel
theorem d_law_362 : decode code 362 = .ok (.iconst 2, 1) := by decide +kernel
theorem d_law_363 : decode code 363 = .ok (.iadd, 1) := by decide +kernel
theorem d_law_364 : decode code 364 = .ok (.iaload, 1) := by decide +kernel
theorem d_law_365 : decode code 365 = .ok (.aload_n 0, 1) := by decide +kernel
theorem d_law_366 : decode code 366 = .ok (.iload_n 3, 1) := by decide +kernel
theorem d_law_367 : decode code 367 = .ok (.iconst 3, 1) := by decide +kernel
theorem d_law_368 : decode code 368 = .ok (.iadd, 1) := by decide +kernel
theorem d_law_369 : decode code 369 = .ok (.iaload, 1) := by decide +kernel
theorem d_law_370 : decode code 370 = .ok (.invokevirtual 56, 3) := by decide +kernel
theorem d_law_373 : decode code 373 = .ok (.if_icmp .eq 235, 3) := by decide +kernel
theorem d_law_376 : decode code 376 = .ok (.iconst 0, 1) := by decide +kernel
theorem d_law_377 : decode code 377 = .ok (.ireturn, 1) := by decide +kernel
theorem d_law_378 : decode code 378 = .ok (.aload_n 1, 1) := by decide +kernel
theorem d_law_379 : decode code 379 = .ok (.aload_n 0, 1) := by decide +kernel
theorem d_law_380 : decode code 380 = .ok (.iload_n 3, 1) := by decide +kernel
theorem d_law_381 : decode code 381 = .ok (.iconst 1, 1) := by decide +kernel
theorem d_law_382 : decode code 382 = .ok (.iadd, 1) := by decide +kernel
theorem d_law_383 : decode code 383 = .ok (.iaload, 1) := by decide +kernel
theorem d_law_384 : decode code 384 = .ok (.aload_n 0, 1) := by decide +kernel
theorem d_law_385 : decode code 385 = .ok (.iload_n 3, 1) := by decide +kernel
theorem d_law_386 : decode code 386 = .ok (.iconst 2, 1) := by decide +kernel
theorem d_law_387 : decode code 387 = .ok (.iadd, 1) := by decide +kernel
theorem d_law_388 : decode code 388 = .ok (.iaload, 1) := by decide +kernel
theorem d_law_389 : decode code 389 = .ok (.invokevirtual 57, 3) := by decide +kernel
theorem d_law_392 : decode code 392 = .ok (.aload_n 2, 1) := by decide +kernel
theorem d_law_393 : decode code 393 = .ok (.aload_n 0, 1) := by decide +kernel
theorem d_law_394 : decode code 394 = .ok (.iload_n 3, 1) := by decide +kernel
theorem d_law_395 : decode code 395 = .ok (.iconst 1, 1) := by decide +kernel
theorem d_law_396 : decode code 396 = .ok (.iadd, 1) := by decide +kernel
theorem d_law_397 : decode code 397 = .ok (.iaload, 1) := by decide +kernel
theorem d_law_398 : decode code 398 = .ok (.aload_n 0, 1) := by decide +kernel
theorem d_law_399 : decode code 399 = .ok (.iload_n 3, 1) := by decide +kernel
theorem d_law_400 : decode code 400 = .ok (.iconst 2, 1) := by decide +kernel
theorem d_law_401 : decode code 401 = .ok (.iadd, 1) := by decide +kernel
theorem d_law_402 : decode code 402 = .ok (.iaload, 1) := by decide +kernel
theorem d_law_403 : decode code 403 = .ok (.invokevirtual 60, 3) := by decide +kernel
theorem d_law_406 : decode code 406 = .ok (.if_icmp .eq 202, 3) := by decide +kernel
theorem d_law_409 : decode code 409 = .ok (.iconst 0, 1) := by decide +kernel
theorem d_law_410 : decode code 410 = .ok (.ireturn, 1) := by decide +kernel
theorem d_law_411 : decode code 411 = .ok (.aload_n 1, 1) := by decide +kernel
theorem d_law_412 : decode code 412 = .ok (.aload_n 0, 1) := by decide +kernel
theorem d_law_413 : decode code 413 = .ok (.iload_n 3, 1) := by decide +kernel
theorem d_law_414 : decode code 414 = .ok (.iconst 1, 1) := by decide +kernel
theorem d_law_415 : decode code 415 = .ok (.iadd, 1) := by decide +kernel
theorem d_law_416 : decode code 416 = .ok (.iaload, 1) := by decide +kernel
theorem d_law_417 : decode code 417 = .ok (.invokevirtual 61, 3) := by decide +kernel
theorem d_law_420 : decode code 420 = .ok (.aload_n 2, 1) := by decide +kernel
theorem d_law_421 : decode code 421 = .ok (.aload_n 0, 1) := by decide +kernel
theorem d_law_422 : decode code 422 = .ok (.iload_n 3, 1) := by decide +kernel
theorem d_law_423 : decode code 423 = .ok (.iconst 1, 1) := by decide +kernel
theorem d_law_424 : decode code 424 = .ok (.iadd, 1) := by decide +kernel
theorem d_law_425 : decode code 425 = .ok (.iaload, 1) := by decide +kernel
theorem d_law_426 : decode code 426 = .ok (.invokevirtual 64, 3) := by decide +kernel
theorem d_law_429 : decode code 429 = .ok (.if_icmp .eq 179, 3) := by decide +kernel
theorem d_law_432 : decode code 432 = .ok (.iconst 0, 1) := by decide +kernel
theorem d_law_433 : decode code 433 = .ok (.ireturn, 1) := by decide +kernel
theorem d_law_434 : decode code 434 = .ok (.aload_n 1, 1) := by decide +kernel
theorem d_law_435 : decode code 435 = .ok (.invokevirtual 65, 3) := by decide +kernel
theorem d_law_438 : decode code 438 = .ok (.aload_n 2, 1) := by decide +kernel
theorem d_law_439 : decode code 439 = .ok (.invokevirtual 68, 3) := by decide +kernel
theorem d_law_442 : decode code 442 = .ok (.if_icmp .eq 166, 3) := by decide +kernel
theorem d_law_445 : decode code 445 = .ok (.iconst 0, 1) := by decide +kernel
theorem d_law_446 : decode code 446 = .ok (.ireturn, 1) := by decide +kernel
theorem d_law_447 : decode code 447 = .ok (.aload_n 1, 1) := by decide +kernel
theorem d_law_448 : decode code 448 = .ok (.aload_n 0, 1) := by decide +kernel
theorem d_law_449 : decode code 449 = .ok (.iload_n 3, 1) := by decide +kernel
theorem d_law_450 : decode code 450 = .ok (.iconst 1, 1) := by decide +kernel
theorem d_law_451 : decode code 451 = .ok (.iadd, 1) := by decide +kernel
theorem d_law_452 : decode code 452 = .ok (.iaload, 1) := by decide +kernel
theorem d_law_453 : decode code 453 = .ok (.invokevirtual 69, 3) := by decide +kernel
theorem d_law_456 : decode code 456 = .ok (.aload_n 2, 1) := by decide +kernel
theorem d_law_457 : decode code 457 = .ok (.aload_n 0, 1) := by decide +kernel
theorem d_law_458 : decode code 458 = .ok (.iload_n 3, 1) := by decide +kernel
theorem d_law_459 : decode code 459 = .ok (.iconst 1, 1) := by decide +kernel
theorem d_law_460 : decode code 460 = .ok (.iadd, 1) := by decide +kernel
theorem d_law_461 : decode code 461 = .ok (.iaload, 1) := by decide +kernel
theorem d_law_462 : decode code 462 = .ok (.invokevirtual 72, 3) := by decide +kernel
theorem d_law_465 : decode code 465 = .ok (.if_icmp .eq 143, 3) := by decide +kernel
theorem d_law_468 : decode code 468 = .ok (.iconst 0, 1) := by decide +kernel
theorem d_law_469 : decode code 469 = .ok (.ireturn, 1) := by decide +kernel
theorem d_law_470 : decode code 470 = .ok (.aload_n 1, 1) := by decide +kernel
theorem d_law_471 : decode code 471 = .ok (.invokevirtual 73, 3) := by decide +kernel
theorem d_law_474 : decode code 474 = .ok (.aload_n 2, 1) := by decide +kernel
theorem d_law_475 : decode code 475 = .ok (.invokevirtual 76, 3) := by decide +kernel
theorem d_law_478 : decode code 478 = .ok (.if_icmp .eq 130, 3) := by decide +kernel
theorem d_law_481 : decode code 481 = .ok (.iconst 0, 1) := by decide +kernel
theorem d_law_482 : decode code 482 = .ok (.ireturn, 1) := by decide +kernel
theorem d_law_483 : decode code 483 = .ok (.aload_n 1, 1) := by decide +kernel
theorem d_law_484 : decode code 484 = .ok (.aload_n 0, 1) := by decide +kernel
theorem d_law_485 : decode code 485 = .ok (.iload_n 3, 1) := by decide +kernel
theorem d_law_486 : decode code 486 = .ok (.iconst 1, 1) := by decide +kernel
theorem d_law_487 : decode code 487 = .ok (.iadd, 1) := by decide +kernel
theorem d_law_488 : decode code 488 = .ok (.iaload, 1) := by decide +kernel
theorem d_law_489 : decode code 489 = .ok (.invokevirtual 77, 3) := by decide +kernel
theorem d_law_492 : decode code 492 = .ok (.aload_n 2, 1) := by decide +kernel
theorem d_law_493 : decode code 493 = .ok (.aload_n 0, 1) := by decide +kernel
theorem d_law_494 : decode code 494 = .ok (.iload_n 3, 1) := by decide +kernel
theorem d_law_495 : decode code 495 = .ok (.iconst 1, 1) := by decide +kernel
theorem d_law_496 : decode code 496 = .ok (.iadd, 1) := by decide +kernel
theorem d_law_497 : decode code 497 = .ok (.iaload, 1) := by decide +kernel
theorem d_law_498 : decode code 498 = .ok (.invokevirtual 80, 3) := by decide +kernel
theorem d_law_501 : decode code 501 = .ok (.if_icmp .eq 107, 3) := by decide +kernel
theorem d_law_504 : decode code 504 = .ok (.iconst 0, 1) := by decide +kernel
theorem d_law_505 : decode code 505 = .ok (.ireturn, 1) := by decide +kernel
theorem d_law_506 : decode code 506 = .ok (.aload_n 1, 1) := by decide +kernel
theorem d_law_507 : decode code 507 = .ok (.aload_n 0, 1) := by decide +kernel
theorem d_law_508 : decode code 508 = .ok (.iload_n 3, 1) := by decide +kernel
theorem d_law_509 : decode code 509 = .ok (.iconst 1, 1) := by decide +kernel
theorem d_law_510 : decode code 510 = .ok (.iadd, 1) := by decide +kernel
theorem d_law_511 : decode code 511 = .ok (.iaload, 1) := by decide +kernel
theorem d_law_512 : decode code 512 = .ok (.aload_n 0, 1) := by decide +kernel
theorem d_law_513 : decode code 513 = .ok (.iload_n 3, 1) := by decide +kernel
theorem d_law_514 : decode code 514 = .ok (.iconst 2, 1) := by decide +kernel
theorem d_law_515 : decode code 515 = .ok (.iadd, 1) := by decide +kernel
theorem d_law_516 : decode code 516 = .ok (.iaload, 1) := by decide +kernel
theorem d_law_517 : decode code 517 = .ok (.invokevirtual 81, 3) := by decide +kernel
theorem d_law_520 : decode code 520 = .ok (.aload_n 2, 1) := by decide +kernel
theorem d_law_521 : decode code 521 = .ok (.aload_n 0, 1) := by decide +kernel
theorem d_law_522 : decode code 522 = .ok (.iload_n 3, 1) := by decide +kernel
theorem d_law_523 : decode code 523 = .ok (.iconst 1, 1) := by decide +kernel
theorem d_law_524 : decode code 524 = .ok (.iadd, 1) := by decide +kernel
theorem d_law_525 : decode code 525 = .ok (.iaload, 1) := by decide +kernel
theorem d_law_526 : decode code 526 = .ok (.aload_n 0, 1) := by decide +kernel
theorem d_law_527 : decode code 527 = .ok (.iload_n 3, 1) := by decide +kernel
theorem d_law_528 : decode code 528 = .ok (.iconst 2, 1) := by decide +kernel
theorem d_law_529 : decode code 529 = .ok (.iadd, 1) := by decide +kernel
theorem d_law_530 : decode code 530 = .ok (.iaload, 1) := by decide +kernel
theorem d_law_531 : decode code 531 = .ok (.invokevirtual 84, 3) := by decide +kernel
theorem d_law_534 : decode code 534 = .ok (.if_icmp .eq 74, 3) := by decide +kernel
theorem d_law_537 : decode code 537 = .ok (.iconst 0, 1) := by decide +kernel
theorem d_law_538 : decode code 538 = .ok (.ireturn, 1) := by decide +kernel
theorem d_law_539 : decode code 539 = .ok (.aload_n 1, 1) := by decide +kernel
theorem d_law_540 : decode code 540 = .ok (.aload_n 0, 1) := by decide +kernel
theorem d_law_541 : decode code 541 = .ok (.iload_n 3, 1) := by decide +kernel
theorem d_law_542 : decode code 542 = .ok (.iconst 1, 1) := by decide +kernel
theorem d_law_543 : decode code 543 = .ok (.iadd, 1) := by decide +kernel
theorem d_law_544 : decode code 544 = .ok (.iaload, 1) := by decide +kernel
theorem d_law_545 : decode code 545 = .ok (.aload_n 0, 1) := by decide +kernel
theorem d_law_546 : decode code 546 = .ok (.iload_n 3, 1) := by decide +kernel
theorem d_law_547 : decode code 547 = .ok (.iconst 2, 1) := by decide +kernel
theorem d_law_548 : decode code 548 = .ok (.iadd, 1) := by decide +kernel
theorem d_law_549 : decode code 549 = .ok (.iaload, 1) := by decide +kernel
theorem d_law_550 : decode code 550 = .ok (.invokevirtual 85, 3) := by decide +kernel
theorem d_law_553 : decode code 553 = .ok (.aload_n 2, 1) := by decide +kernel
theorem d_law_554 : decode code 554 = .ok (.aload_n 0, 1) := by decide +kernel
theorem d_law_555 : decode code 555 = .ok (.iload_n 3, 1) := by decide +kernel
theorem d_law_556 : decode code 556 = .ok (.iconst 1, 1) := by decide +kernel
theorem d_law_557 : decode code 557 = .ok (.iadd, 1) := by decide +kernel
theorem d_law_558 : decode code 558 = .ok (.iaload, 1) := by decide +kernel
theorem d_law_559 : decode code 559 = .ok (.aload_n 0, 1) := by decide +kernel
theorem d_law_560 : decode code 560 = .ok (.iload_n 3, 1) := by decide +kernel
theorem d_law_561 : decode code 561 = .ok (.iconst 2, 1) := by decide +kernel
theorem d_law_562 : decode code 562 = .ok (.iadd, 1) := by decide +kernel
theorem d_law_563 : decode code 563 = .ok (.iaload, 1) := by decide +kernel
theorem d_law_564 : decode code 564 = .ok (.invokevirtual 88, 3) := by decide +kernel
theorem d_law_567 : decode code 567 = .ok (.if_icmp .eq 41, 3) := by decide +kernel
theorem d_law_570 : decode code 570 = .ok (.iconst 0, 1) := by decide +kernel
theorem d_law_571 : decode code 571 = .ok (.ireturn, 1) := by decide +kernel
theorem d_law_572 : decode code 572 = .ok (.aload_n 1, 1) := by decide +kernel
theorem d_law_573 : decode code 573 = .ok (.aload_n 0, 1) := by decide +kernel
theorem d_law_574 : decode code 574 = .ok (.iload_n 3, 1) := by decide +kernel
theorem d_law_575 : decode code 575 = .ok (.iconst 1, 1) := by decide +kernel
theorem d_law_576 : decode code 576 = .ok (.iadd, 1) := by decide +kernel
theorem d_law_577 : decode code 577 = .ok (.iaload, 1) := by decide +kernel
theorem d_law_578 : decode code 578 = .ok (.invokevirtual 89, 3) := by decide +kernel
theorem d_law_581 : decode code 581 = .ok (.aload_n 2, 1) := by decide +kernel
theorem d_law_582 : decode code 582 = .ok (.aload_n 0, 1) := by decide +kernel
theorem d_law_583 : decode code 583 = .ok (.iload_n 3, 1) := by decide +kernel
theorem d_law_584 : decode code 584 = .ok (.iconst 1, 1) := by decide +kernel
theorem d_law_585 : decode code 585 = .ok (.iadd, 1) := by decide +kernel
theorem d_law_586 : decode code 586 = .ok (.iaload, 1) := by decide +kernel
theorem d_law_587 : decode code 587 = .ok (.invokevirtual 92, 3) := by decide +kernel
theorem d_law_590 : decode code 590 = .ok (.if_icmp .eq 18, 3) := by decide +kernel
theorem d_law_593 : decode code 593 = .ok (.iconst 0, 1) := by decide +kernel
theorem d_law_594 : decode code 594 = .ok (.ireturn, 1) := by decide +kernel
theorem d_law_595 : decode code 595 = .ok (.aload_n 1, 1) := by decide +kernel
theorem d_law_596 : decode code 596 = .ok (.invokevirtual 93, 3) := by decide +kernel
theorem d_law_599 : decode code 599 = .ok (.aload_n 2, 1) := by decide +kernel
theorem d_law_600 : decode code 600 = .ok (.invokevirtual 96, 3) := by decide +kernel
theorem d_law_603 : decode code 603 = .ok (.if_icmp .eq 5, 3) := by decide +kernel
theorem d_law_606 : decode code 606 = .ok (.iconst 0, 1) := by decide +kernel
theorem d_law_607 : decode code 607 = .ok (.ireturn, 1) := by decide +kernel
theorem d_law_608 : decode code 608 = .ok (.iinc 3 4, 3) := by decide +kernel
theorem d_law_611 : decode code 611 = .ok (.goto (-593), 3) := by decide +kernel
theorem d_law_614 : decode code 614 = .ok (.iconst 1, 1) := by decide +kernel
theorem d_law_615 : decode code 615 = .ok (.ireturn, 1) := by decide +kernel
theorem gd_lawret {p : Program} {l : Launch} {e : Env} {s : State} {m : MethodId} {below : List Frame} {meth : Method} {c : Code} {D : va_G} {tys : List (ClassId × FieldType)} {cl : List vw_C} {b : Nat} {w : List va_W} {lv : List (Nat × Value)} {pc : Nat} (X : gx p s m #[Value.ref b] c code 4 R_RuleTreesLaw w_law D cl tys (fun q => s.heap.size ≤ q)) (hr : meth.sig.returnType = ret) (hlk : meth.locks = false) (hdg : decode code pc = .ok (.ireturn, 1)) : Gd p l e room_1 s m #[Value.ref b] below meth c 65 391987 (lw_Z below #[Value.ref b] s) D cl (fun q => s.heap.size ≤ q) 4 pc w lv [.int 1] := by
  intro H locs ls hP hD hS hl
  refine va_forget (fun q hq => hS.2.2 q hq) ?_
  refine W.widen (k := 600000) (n := 7302250) (Nat.le_of_ble_eq_true rfl) (Nat.le_of_ble_eq_true rfl) ?_
  exact lw_ret X.1 X.2.1 hr hlk hdg
theorem ml_RuleTreesLaw_13 : Cond.methodLink R_RuleTreesLaw 13 ⟨"RuleTrees", "sort", "()I"⟩ ∈ TB := tb_of 289 (by decide +kernel) (by decide +kernel)
theorem u_Rt_sort : (Cond.instanceMethod y_Rt_sort ∈ TB ∧ Cond.selects R_Rt y_Rt_sort y_Rt_sort ∈ TB) ∧ Cond.initialized R_Rt ∈ TB ∧ Cond.code y_Rt_sort b_Rt_sort 1 (some .int) ∈ TB := ⟨⟨(tb_of 290 (by decide +kernel) (by decide +kernel)), (tb_of 291 (by decide +kernel) (by decide +kernel))⟩, (tb_of 62 (by decide +kernel) (by decide +kernel)), k_Rt_sort⟩
theorem ml_RuleTreesLaw_17 : Cond.methodLink R_RuleTreesLaw 17 ⟨"RuleTreesModel", "sort", "()I"⟩ ∈ TB := tb_of 831 (by decide +kernel) (by decide +kernel)
theorem u_Md_sort : (Cond.instanceMethod y_Md_sort ∈ TB ∧ Cond.selects R_Md y_Md_sort y_Md_sort ∈ TB) ∧ Cond.initialized R_Md ∈ TB ∧ Cond.code y_Md_sort b_Md_sort 1 (some .int) ∈ TB := ⟨⟨(tb_of 832 (by decide +kernel) (by decide +kernel)), (tb_of 833 (by decide +kernel) (by decide +kernel))⟩, (tb_of 70 (by decide +kernel) (by decide +kernel)), k_Md_sort⟩
theorem ml_RuleTreesLaw_18 : Cond.methodLink R_RuleTreesLaw 18 ⟨"RuleTrees", "variable", "(I)I"⟩ ∈ TB := tb_of 297 (by decide +kernel) (by decide +kernel)
theorem u_Rt_variable : (Cond.instanceMethod y_Rt_variable ∈ TB ∧ Cond.selects R_Rt y_Rt_variable y_Rt_variable ∈ TB) ∧ Cond.initialized R_Rt ∈ TB ∧ Cond.code y_Rt_variable b_Rt_variable 2 (some .int) ∈ TB := ⟨⟨(tb_of 298 (by decide +kernel) (by decide +kernel)), (tb_of 299 (by decide +kernel) (by decide +kernel))⟩, (tb_of 62 (by decide +kernel) (by decide +kernel)), k_Rt_variable⟩
theorem ml_RuleTreesLaw_22 : Cond.methodLink R_RuleTreesLaw 22 ⟨"RuleTreesModel", "variable", "(I)I"⟩ ∈ TB := tb_of 835 (by decide +kernel) (by decide +kernel)
theorem u_Md_variable : (Cond.instanceMethod y_Md_variable ∈ TB ∧ Cond.selects R_Md y_Md_variable y_Md_variable ∈ TB) ∧ Cond.initialized R_Md ∈ TB ∧ Cond.code y_Md_variable b_Md_variable 2 (some .int) ∈ TB := ⟨⟨(tb_of 836 (by decide +kernel) (by decide +kernel)), (tb_of 837 (by decide +kernel) (by decide +kernel))⟩, (tb_of 70 (by decide +kernel) (by decide +kernel)), k_Md_variable⟩
theorem ml_RuleTreesLaw_23 : Cond.methodLink R_RuleTreesLaw 23 ⟨"RuleTrees", "begin", "(I)I"⟩ ∈ TB := tb_of 309 (by decide +kernel) (by decide +kernel)
theorem u_Rt_begin : (Cond.instanceMethod y_Rt_begin ∈ TB ∧ Cond.selects R_Rt y_Rt_begin y_Rt_begin ∈ TB) ∧ Cond.initialized R_Rt ∈ TB ∧ Cond.code y_Rt_begin b_Rt_begin 2 (some .int) ∈ TB := ⟨⟨(tb_of 310 (by decide +kernel) (by decide +kernel)), (tb_of 311 (by decide +kernel) (by decide +kernel))⟩, (tb_of 62 (by decide +kernel) (by decide +kernel)), k_Rt_begin⟩
theorem ml_RuleTreesLaw_26 : Cond.methodLink R_RuleTreesLaw 26 ⟨"RuleTreesModel", "begin", "(I)I"⟩ ∈ TB := tb_of 843 (by decide +kernel) (by decide +kernel)
theorem u_Md_begin : (Cond.instanceMethod y_Md_begin ∈ TB ∧ Cond.selects R_Md y_Md_begin y_Md_begin ∈ TB) ∧ Cond.initialized R_Md ∈ TB ∧ Cond.code y_Md_begin b_Md_begin 2 (some .int) ∈ TB := ⟨⟨(tb_of 844 (by decide +kernel) (by decide +kernel)), (tb_of 845 (by decide +kernel) (by decide +kernel))⟩, (tb_of 70 (by decide +kernel) (by decide +kernel)), k_Md_begin⟩
theorem ml_RuleTreesLaw_27 : Cond.methodLink R_RuleTreesLaw 27 ⟨"RuleTrees", "put", "(I)I"⟩ ∈ TB := tb_of 317 (by decide +kernel) (by decide +kernel)
theorem u_Rt_put : (Cond.instanceMethod y_Rt_put ∈ TB ∧ Cond.selects R_Rt y_Rt_put y_Rt_put ∈ TB) ∧ Cond.initialized R_Rt ∈ TB ∧ Cond.code y_Rt_put b_Rt_put 2 (some .int) ∈ TB := ⟨⟨(tb_of 318 (by decide +kernel) (by decide +kernel)), (tb_of 319 (by decide +kernel) (by decide +kernel))⟩, (tb_of 62 (by decide +kernel) (by decide +kernel)), k_Rt_put⟩
theorem ml_RuleTreesLaw_30 : Cond.methodLink R_RuleTreesLaw 30 ⟨"RuleTreesModel", "put", "(I)I"⟩ ∈ TB := tb_of 847 (by decide +kernel) (by decide +kernel)
theorem u_Md_put : (Cond.instanceMethod y_Md_put ∈ TB ∧ Cond.selects R_Md y_Md_put y_Md_put ∈ TB) ∧ Cond.initialized R_Md ∈ TB ∧ Cond.code y_Md_put b_Md_put 2 (some .int) ∈ TB := ⟨⟨(tb_of 848 (by decide +kernel) (by decide +kernel)), (tb_of 849 (by decide +kernel) (by decide +kernel))⟩, (tb_of 70 (by decide +kernel) (by decide +kernel)), k_Md_put⟩
theorem ml_RuleTreesLaw_31 : Cond.methodLink R_RuleTreesLaw 31 ⟨"RuleTrees", "close", "()I"⟩ ∈ TB := tb_of 333 (by decide +kernel) (by decide +kernel)
theorem u_Rt_close : (Cond.instanceMethod y_Rt_close ∈ TB ∧ Cond.selects R_Rt y_Rt_close y_Rt_close ∈ TB) ∧ Cond.initialized R_Rt ∈ TB ∧ Cond.code y_Rt_close b_Rt_close 1 (some .int) ∈ TB := ⟨⟨(tb_of 334 (by decide +kernel) (by decide +kernel)), (tb_of 335 (by decide +kernel) (by decide +kernel))⟩, (tb_of 62 (by decide +kernel) (by decide +kernel)), k_Rt_close⟩
theorem ml_RuleTreesLaw_34 : Cond.methodLink R_RuleTreesLaw 34 ⟨"RuleTreesModel", "close", "()I"⟩ ∈ TB := tb_of 859 (by decide +kernel) (by decide +kernel)
theorem u_Md_close : (Cond.instanceMethod y_Md_close ∈ TB ∧ Cond.selects R_Md y_Md_close y_Md_close ∈ TB) ∧ Cond.initialized R_Md ∈ TB ∧ Cond.code y_Md_close b_Md_close 2 (some .int) ∈ TB := ⟨⟨(tb_of 860 (by decide +kernel) (by decide +kernel)), (tb_of 861 (by decide +kernel) (by decide +kernel))⟩, (tb_of 70 (by decide +kernel) (by decide +kernel)), k_Md_close⟩
theorem ml_RuleTreesLaw_35 : Cond.methodLink R_RuleTreesLaw 35 ⟨"RuleTrees", "token", "(I)I"⟩ ∈ TB := tb_of 345 (by decide +kernel) (by decide +kernel)
theorem u_Rt_token : (Cond.instanceMethod y_Rt_token ∈ TB ∧ Cond.selects R_Rt y_Rt_token y_Rt_token ∈ TB) ∧ Cond.initialized R_Rt ∈ TB ∧ Cond.code y_Rt_token b_Rt_token 2 (some .int) ∈ TB := ⟨⟨(tb_of 346 (by decide +kernel) (by decide +kernel)), (tb_of 347 (by decide +kernel) (by decide +kernel))⟩, (tb_of 62 (by decide +kernel) (by decide +kernel)), k_Rt_token⟩
theorem ml_RuleTreesLaw_38 : Cond.methodLink R_RuleTreesLaw 38 ⟨"RuleTreesModel", "token", "(I)I"⟩ ∈ TB := tb_of 863 (by decide +kernel) (by decide +kernel)
theorem u_Md_token : (Cond.instanceMethod y_Md_token ∈ TB ∧ Cond.selects R_Md y_Md_token y_Md_token ∈ TB) ∧ Cond.initialized R_Md ∈ TB ∧ Cond.code y_Md_token b_Md_token 2 (some .int) ∈ TB := ⟨⟨(tb_of 864 (by decide +kernel) (by decide +kernel)), (tb_of 865 (by decide +kernel) (by decide +kernel))⟩, (tb_of 70 (by decide +kernel) (by decide +kernel)), k_Md_token⟩
theorem ml_RuleTreesLaw_39 : Cond.methodLink R_RuleTreesLaw 39 ⟨"RuleTrees", "drop", "()I"⟩ ∈ TB := tb_of 354 (by decide +kernel) (by decide +kernel)
theorem u_Rt_drop : (Cond.instanceMethod y_Rt_drop ∈ TB ∧ Cond.selects R_Rt y_Rt_drop y_Rt_drop ∈ TB) ∧ Cond.initialized R_Rt ∈ TB ∧ Cond.code y_Rt_drop b_Rt_drop 1 (some .int) ∈ TB := ⟨⟨(tb_of 355 (by decide +kernel) (by decide +kernel)), (tb_of 356 (by decide +kernel) (by decide +kernel))⟩, (tb_of 62 (by decide +kernel) (by decide +kernel)), k_Rt_drop⟩
theorem ml_RuleTreesLaw_42 : Cond.methodLink R_RuleTreesLaw 42 ⟨"RuleTreesModel", "drop", "()I"⟩ ∈ TB := tb_of 867 (by decide +kernel) (by decide +kernel)
theorem u_Md_drop : (Cond.instanceMethod y_Md_drop ∈ TB ∧ Cond.selects R_Md y_Md_drop y_Md_drop ∈ TB) ∧ Cond.initialized R_Md ∈ TB ∧ Cond.code y_Md_drop b_Md_drop 2 (some .int) ∈ TB := ⟨⟨(tb_of 868 (by decide +kernel) (by decide +kernel)), (tb_of 869 (by decide +kernel) (by decide +kernel))⟩, (tb_of 70 (by decide +kernel) (by decide +kernel)), k_Md_drop⟩
theorem ml_RuleTreesLaw_43 : Cond.methodLink R_RuleTreesLaw 43 ⟨"RuleTrees", "trees", "(III)I"⟩ ∈ TB := tb_of 362 (by decide +kernel) (by decide +kernel)
theorem u_Rt_trees : (Cond.instanceMethod y_Rt_trees ∈ TB ∧ Cond.selects R_Rt y_Rt_trees y_Rt_trees ∈ TB) ∧ Cond.initialized R_Rt ∈ TB ∧ Cond.code y_Rt_trees b_Rt_trees 5 (some .int) ∈ TB := ⟨⟨(tb_of 363 (by decide +kernel) (by decide +kernel)), (tb_of 364 (by decide +kernel) (by decide +kernel))⟩, (tb_of 62 (by decide +kernel) (by decide +kernel)), k_Rt_trees⟩
theorem ml_RuleTreesLaw_47 : Cond.methodLink R_RuleTreesLaw 47 ⟨"RuleTreesModel", "trees", "(III)I"⟩ ∈ TB := tb_of 871 (by decide +kernel) (by decide +kernel)
theorem u_Md_trees : (Cond.instanceMethod y_Md_trees ∈ TB ∧ Cond.selects R_Md y_Md_trees y_Md_trees ∈ TB) ∧ Cond.initialized R_Md ∈ TB ∧ Cond.code y_Md_trees b_Md_trees 5 (some .int) ∈ TB := ⟨⟨(tb_of 872 (by decide +kernel) (by decide +kernel)), (tb_of 873 (by decide +kernel) (by decide +kernel))⟩, (tb_of 70 (by decide +kernel) (by decide +kernel)), k_Md_trees⟩
theorem ml_RuleTreesLaw_48 : Cond.methodLink R_RuleTreesLaw 48 ⟨"RuleTrees", "size", "(II)I"⟩ ∈ TB := tb_of 552 (by decide +kernel) (by decide +kernel)
theorem u_Rt_size : (Cond.instanceMethod y_Rt_size ∈ TB ∧ Cond.selects R_Rt y_Rt_size y_Rt_size ∈ TB) ∧ Cond.initialized R_Rt ∈ TB ∧ Cond.code y_Rt_size b_Rt_size 3 (some .int) ∈ TB := ⟨⟨(tb_of 553 (by decide +kernel) (by decide +kernel)), (tb_of 554 (by decide +kernel) (by decide +kernel))⟩, (tb_of 62 (by decide +kernel) (by decide +kernel)), k_Rt_size⟩
theorem ml_RuleTreesLaw_52 : Cond.methodLink R_RuleTreesLaw 52 ⟨"RuleTreesModel", "size", "(II)I"⟩ ∈ TB := tb_of 950 (by decide +kernel) (by decide +kernel)
theorem u_Md_size : (Cond.instanceMethod y_Md_size ∈ TB ∧ Cond.selects R_Md y_Md_size y_Md_size ∈ TB) ∧ Cond.initialized R_Md ∈ TB ∧ Cond.code y_Md_size b_Md_size 3 (some .int) ∈ TB := ⟨⟨(tb_of 951 (by decide +kernel) (by decide +kernel)), (tb_of 952 (by decide +kernel) (by decide +kernel))⟩, (tb_of 70 (by decide +kernel) (by decide +kernel)), k_Md_size⟩
theorem ml_RuleTreesLaw_53 : Cond.methodLink R_RuleTreesLaw 53 ⟨"RuleTrees", "code", "(III)I"⟩ ∈ TB := tb_of 564 (by decide +kernel) (by decide +kernel)
theorem u_Rt_code : (Cond.instanceMethod y_Rt_code ∈ TB ∧ Cond.selects R_Rt y_Rt_code y_Rt_code ∈ TB) ∧ Cond.initialized R_Rt ∈ TB ∧ Cond.code y_Rt_code b_Rt_code 4 (some .int) ∈ TB := ⟨⟨(tb_of 565 (by decide +kernel) (by decide +kernel)), (tb_of 566 (by decide +kernel) (by decide +kernel))⟩, (tb_of 62 (by decide +kernel) (by decide +kernel)), k_Rt_code⟩
theorem ml_RuleTreesLaw_56 : Cond.methodLink R_RuleTreesLaw 56 ⟨"RuleTreesModel", "code", "(III)I"⟩ ∈ TB := tb_of 958 (by decide +kernel) (by decide +kernel)
theorem u_Md_code : (Cond.instanceMethod y_Md_code ∈ TB ∧ Cond.selects R_Md y_Md_code y_Md_code ∈ TB) ∧ Cond.initialized R_Md ∈ TB ∧ Cond.code y_Md_code b_Md_code 5 (some .int) ∈ TB := ⟨⟨(tb_of 959 (by decide +kernel) (by decide +kernel)), (tb_of 960 (by decide +kernel) (by decide +kernel))⟩, (tb_of 70 (by decide +kernel) (by decide +kernel)), k_Md_code⟩
theorem ml_RuleTreesLaw_57 : Cond.methodLink R_RuleTreesLaw 57 ⟨"RuleTrees", "stretches", "(II)I"⟩ ∈ TB := tb_of 579 (by decide +kernel) (by decide +kernel)
theorem u_Rt_stretches : (Cond.instanceMethod y_Rt_stretches ∈ TB ∧ Cond.selects R_Rt y_Rt_stretches y_Rt_stretches ∈ TB) ∧ Cond.initialized R_Rt ∈ TB ∧ Cond.code y_Rt_stretches b_Rt_stretches 6 (some .int) ∈ TB := ⟨⟨(tb_of 580 (by decide +kernel) (by decide +kernel)), (tb_of 581 (by decide +kernel) (by decide +kernel))⟩, (tb_of 62 (by decide +kernel) (by decide +kernel)), k_Rt_stretches⟩
theorem ml_RuleTreesLaw_60 : Cond.methodLink R_RuleTreesLaw 60 ⟨"RuleTreesModel", "stretches", "(II)I"⟩ ∈ TB := tb_of 962 (by decide +kernel) (by decide +kernel)
theorem u_Md_stretches : (Cond.instanceMethod y_Md_stretches ∈ TB ∧ Cond.selects R_Md y_Md_stretches y_Md_stretches ∈ TB) ∧ Cond.initialized R_Md ∈ TB ∧ Cond.code y_Md_stretches b_Md_stretches 8 (some .int) ∈ TB := ⟨⟨(tb_of 963 (by decide +kernel) (by decide +kernel)), (tb_of 964 (by decide +kernel) (by decide +kernel))⟩, (tb_of 70 (by decide +kernel) (by decide +kernel)), k_Md_stretches⟩
theorem ml_RuleTreesLaw_61 : Cond.methodLink R_RuleTreesLaw 61 ⟨"RuleTrees", "type", "(I)I"⟩ ∈ TB := tb_of 586 (by decide +kernel) (by decide +kernel)
theorem u_Rt_type : (Cond.instanceMethod y_Rt_type ∈ TB ∧ Cond.selects R_Rt y_Rt_type y_Rt_type ∈ TB) ∧ Cond.initialized R_Rt ∈ TB ∧ Cond.code y_Rt_type b_Rt_type 2 (some .int) ∈ TB := ⟨⟨(tb_of 587 (by decide +kernel) (by decide +kernel)), (tb_of 588 (by decide +kernel) (by decide +kernel))⟩, (tb_of 62 (by decide +kernel) (by decide +kernel)), k_Rt_type⟩
theorem ml_RuleTreesLaw_64 : Cond.methodLink R_RuleTreesLaw 64 ⟨"RuleTreesModel", "type", "(I)I"⟩ ∈ TB := tb_of 966 (by decide +kernel) (by decide +kernel)
theorem u_Md_type : (Cond.instanceMethod y_Md_type ∈ TB ∧ Cond.selects R_Md y_Md_type y_Md_type ∈ TB) ∧ Cond.initialized R_Md ∈ TB ∧ Cond.code y_Md_type b_Md_type 2 (some .int) ∈ TB := ⟨⟨(tb_of 967 (by decide +kernel) (by decide +kernel)), (tb_of 968 (by decide +kernel) (by decide +kernel))⟩, (tb_of 70 (by decide +kernel) (by decide +kernel)), k_Md_type⟩
theorem ml_RuleTreesLaw_65 : Cond.methodLink R_RuleTreesLaw 65 ⟨"RuleTrees", "clear", "()I"⟩ ∈ TB := tb_of 590 (by decide +kernel) (by decide +kernel)
theorem u_Rt_clear : (Cond.instanceMethod y_Rt_clear ∈ TB ∧ Cond.selects R_Rt y_Rt_clear y_Rt_clear ∈ TB) ∧ Cond.initialized R_Rt ∈ TB ∧ Cond.code y_Rt_clear b_Rt_clear 1 (some .int) ∈ TB := ⟨⟨(tb_of 591 (by decide +kernel) (by decide +kernel)), (tb_of 592 (by decide +kernel) (by decide +kernel))⟩, (tb_of 62 (by decide +kernel) (by decide +kernel)), k_Rt_clear⟩
theorem ml_RuleTreesLaw_68 : Cond.methodLink R_RuleTreesLaw 68 ⟨"RuleTreesModel", "clear", "()I"⟩ ∈ TB := tb_of 970 (by decide +kernel) (by decide +kernel)
theorem u_Md_clear : (Cond.instanceMethod y_Md_clear ∈ TB ∧ Cond.selects R_Md y_Md_clear y_Md_clear ∈ TB) ∧ Cond.initialized R_Md ∈ TB ∧ Cond.code y_Md_clear b_Md_clear 2 (some .int) ∈ TB := ⟨⟨(tb_of 971 (by decide +kernel) (by decide +kernel)), (tb_of 972 (by decide +kernel) (by decide +kernel))⟩, (tb_of 70 (by decide +kernel) (by decide +kernel)), k_Md_clear⟩
theorem ml_RuleTreesLaw_69 : Cond.methodLink R_RuleTreesLaw 69 ⟨"RuleTrees", "grow", "(I)I"⟩ ∈ TB := tb_of 594 (by decide +kernel) (by decide +kernel)
theorem u_Rt_grow : (Cond.instanceMethod y_Rt_grow ∈ TB ∧ Cond.selects R_Rt y_Rt_grow y_Rt_grow ∈ TB) ∧ Cond.initialized R_Rt ∈ TB ∧ Cond.code y_Rt_grow b_Rt_grow 3 (some .int) ∈ TB := ⟨⟨(tb_of 595 (by decide +kernel) (by decide +kernel)), (tb_of 596 (by decide +kernel) (by decide +kernel))⟩, (tb_of 62 (by decide +kernel) (by decide +kernel)), k_Rt_grow⟩
theorem ml_RuleTreesLaw_72 : Cond.methodLink R_RuleTreesLaw 72 ⟨"RuleTreesModel", "grow", "(I)I"⟩ ∈ TB := tb_of 974 (by decide +kernel) (by decide +kernel)
theorem u_Md_grow : (Cond.instanceMethod y_Md_grow ∈ TB ∧ Cond.selects R_Md y_Md_grow y_Md_grow ∈ TB) ∧ Cond.initialized R_Md ∈ TB ∧ Cond.code y_Md_grow b_Md_grow 4 (some .int) ∈ TB := ⟨⟨(tb_of 975 (by decide +kernel) (by decide +kernel)), (tb_of 976 (by decide +kernel) (by decide +kernel))⟩, (tb_of 70 (by decide +kernel) (by decide +kernel)), k_Md_grow⟩
theorem ml_RuleTreesLaw_73 : Cond.methodLink R_RuleTreesLaw 73 ⟨"RuleTrees", "place", "()I"⟩ ∈ TB := tb_of 642 (by decide +kernel) (by decide +kernel)
theorem u_Rt_place : (Cond.instanceMethod y_Rt_place ∈ TB ∧ Cond.selects R_Rt y_Rt_place y_Rt_place ∈ TB) ∧ Cond.initialized R_Rt ∈ TB ∧ Cond.code y_Rt_place b_Rt_place 1 (some .int) ∈ TB := ⟨⟨(tb_of 643 (by decide +kernel) (by decide +kernel)), (tb_of 644 (by decide +kernel) (by decide +kernel))⟩, (tb_of 62 (by decide +kernel) (by decide +kernel)), k_Rt_place⟩
theorem ml_RuleTreesLaw_76 : Cond.methodLink R_RuleTreesLaw 76 ⟨"RuleTreesModel", "place", "()I"⟩ ∈ TB := tb_of 1002 (by decide +kernel) (by decide +kernel)
theorem u_Md_place : (Cond.instanceMethod y_Md_place ∈ TB ∧ Cond.selects R_Md y_Md_place y_Md_place ∈ TB) ∧ Cond.initialized R_Md ∈ TB ∧ Cond.code y_Md_place b_Md_place 1 (some .int) ∈ TB := ⟨⟨(tb_of 1003 (by decide +kernel) (by decide +kernel)), (tb_of 1004 (by decide +kernel) (by decide +kernel))⟩, (tb_of 70 (by decide +kernel) (by decide +kernel)), k_Md_place⟩
theorem ml_RuleTreesLaw_77 : Cond.methodLink R_RuleTreesLaw 77 ⟨"RuleTrees", "shortest", "(I)I"⟩ ∈ TB := tb_of 646 (by decide +kernel) (by decide +kernel)
theorem u_Rt_shortest : (Cond.instanceMethod y_Rt_shortest ∈ TB ∧ Cond.selects R_Rt y_Rt_shortest y_Rt_shortest ∈ TB) ∧ Cond.initialized R_Rt ∈ TB ∧ Cond.code y_Rt_shortest b_Rt_shortest 2 (some .int) ∈ TB := ⟨⟨(tb_of 647 (by decide +kernel) (by decide +kernel)), (tb_of 648 (by decide +kernel) (by decide +kernel))⟩, (tb_of 62 (by decide +kernel) (by decide +kernel)), k_Rt_shortest⟩
theorem ml_RuleTreesLaw_80 : Cond.methodLink R_RuleTreesLaw 80 ⟨"RuleTreesModel", "shortest", "(I)I"⟩ ∈ TB := tb_of 1006 (by decide +kernel) (by decide +kernel)
theorem u_Md_shortest : (Cond.instanceMethod y_Md_shortest ∈ TB ∧ Cond.selects R_Md y_Md_shortest y_Md_shortest ∈ TB) ∧ Cond.initialized R_Md ∈ TB ∧ Cond.code y_Md_shortest b_Md_shortest 10 (some .int) ∈ TB := ⟨⟨(tb_of 1007 (by decide +kernel) (by decide +kernel)), (tb_of 1008 (by decide +kernel) (by decide +kernel))⟩, (tb_of 70 (by decide +kernel) (by decide +kernel)), k_Md_shortest⟩
theorem ml_RuleTreesLaw_81 : Cond.methodLink R_RuleTreesLaw 81 ⟨"RuleTrees", "about", "(II)I"⟩ ∈ TB := tb_of 670 (by decide +kernel) (by decide +kernel)
theorem u_Rt_about : (Cond.instanceMethod y_Rt_about ∈ TB ∧ Cond.selects R_Rt y_Rt_about y_Rt_about ∈ TB) ∧ Cond.initialized R_Rt ∈ TB ∧ Cond.code y_Rt_about b_Rt_about 3 (some .int) ∈ TB := ⟨⟨(tb_of 671 (by decide +kernel) (by decide +kernel)), (tb_of 672 (by decide +kernel) (by decide +kernel))⟩, (tb_of 62 (by decide +kernel) (by decide +kernel)), k_Rt_about⟩
theorem ml_RuleTreesLaw_84 : Cond.methodLink R_RuleTreesLaw 84 ⟨"RuleTreesModel", "about", "(II)I"⟩ ∈ TB := tb_of 1011 (by decide +kernel) (by decide +kernel)
theorem u_Md_about : (Cond.instanceMethod y_Md_about ∈ TB ∧ Cond.selects R_Md y_Md_about y_Md_about ∈ TB) ∧ Cond.initialized R_Md ∈ TB ∧ Cond.code y_Md_about b_Md_about 3 (some .int) ∈ TB := ⟨⟨(tb_of 1012 (by decide +kernel) (by decide +kernel)), (tb_of 1013 (by decide +kernel) (by decide +kernel))⟩, (tb_of 70 (by decide +kernel) (by decide +kernel)), k_Md_about⟩
theorem ml_RuleTreesLaw_85 : Cond.methodLink R_RuleTreesLaw 85 ⟨"RuleTrees", "symbol", "(II)I"⟩ ∈ TB := tb_of 678 (by decide +kernel) (by decide +kernel)
theorem u_Rt_symbol : (Cond.instanceMethod y_Rt_symbol ∈ TB ∧ Cond.selects R_Rt y_Rt_symbol y_Rt_symbol ∈ TB) ∧ Cond.initialized R_Rt ∈ TB ∧ Cond.code y_Rt_symbol b_Rt_symbol 3 (some .int) ∈ TB := ⟨⟨(tb_of 679 (by decide +kernel) (by decide +kernel)), (tb_of 680 (by decide +kernel) (by decide +kernel))⟩, (tb_of 62 (by decide +kernel) (by decide +kernel)), k_Rt_symbol⟩
theorem ml_RuleTreesLaw_88 : Cond.methodLink R_RuleTreesLaw 88 ⟨"RuleTreesModel", "symbol", "(II)I"⟩ ∈ TB := tb_of 1015 (by decide +kernel) (by decide +kernel)
theorem u_Md_symbol : (Cond.instanceMethod y_Md_symbol ∈ TB ∧ Cond.selects R_Md y_Md_symbol y_Md_symbol ∈ TB) ∧ Cond.initialized R_Md ∈ TB ∧ Cond.code y_Md_symbol b_Md_symbol 3 (some .int) ∈ TB := ⟨⟨(tb_of 1016 (by decide +kernel) (by decide +kernel)), (tb_of 1017 (by decide +kernel) (by decide +kernel))⟩, (tb_of 70 (by decide +kernel) (by decide +kernel)), k_Md_symbol⟩
theorem ml_RuleTreesLaw_89 : Cond.methodLink R_RuleTreesLaw 89 ⟨"RuleTrees", "count", "(I)I"⟩ ∈ TB := tb_of 683 (by decide +kernel) (by decide +kernel)
theorem u_Rt_count : (Cond.instanceMethod y_Rt_count ∈ TB ∧ Cond.selects R_Rt y_Rt_count y_Rt_count ∈ TB) ∧ Cond.initialized R_Rt ∈ TB ∧ Cond.code y_Rt_count b_Rt_count 2 (some .int) ∈ TB := ⟨⟨(tb_of 684 (by decide +kernel) (by decide +kernel)), (tb_of 685 (by decide +kernel) (by decide +kernel))⟩, (tb_of 62 (by decide +kernel) (by decide +kernel)), k_Rt_count⟩
theorem ml_RuleTreesLaw_92 : Cond.methodLink R_RuleTreesLaw 92 ⟨"RuleTreesModel", "count", "(I)I"⟩ ∈ TB := tb_of 1019 (by decide +kernel) (by decide +kernel)
theorem u_Md_count : (Cond.instanceMethod y_Md_count ∈ TB ∧ Cond.selects R_Md y_Md_count y_Md_count ∈ TB) ∧ Cond.initialized R_Md ∈ TB ∧ Cond.code y_Md_count b_Md_count 2 (some .int) ∈ TB := ⟨⟨(tb_of 1020 (by decide +kernel) (by decide +kernel)), (tb_of 1021 (by decide +kernel) (by decide +kernel))⟩, (tb_of 70 (by decide +kernel) (by decide +kernel)), k_Md_count⟩
theorem ml_RuleTreesLaw_93 : Cond.methodLink R_RuleTreesLaw 93 ⟨"RuleTrees", "check", "()I"⟩ ∈ TB := tb_of 688 (by decide +kernel) (by decide +kernel)
theorem u_Rt_check : (Cond.instanceMethod y_Rt_check ∈ TB ∧ Cond.selects R_Rt y_Rt_check y_Rt_check ∈ TB) ∧ Cond.initialized R_Rt ∈ TB ∧ Cond.code y_Rt_check b_Rt_check 2 (some .int) ∈ TB := ⟨⟨(tb_of 689 (by decide +kernel) (by decide +kernel)), (tb_of 690 (by decide +kernel) (by decide +kernel))⟩, (tb_of 62 (by decide +kernel) (by decide +kernel)), k_Rt_check⟩
theorem ml_RuleTreesLaw_96 : Cond.methodLink R_RuleTreesLaw 96 ⟨"RuleTreesModel", "check", "()I"⟩ ∈ TB := tb_of 1023 (by decide +kernel) (by decide +kernel)
theorem u_Md_check : (Cond.instanceMethod y_Md_check ∈ TB ∧ Cond.selects R_Md y_Md_check y_Md_check ∈ TB) ∧ Cond.initialized R_Md ∈ TB ∧ Cond.code y_Md_check b_Md_check 1 (some .int) ∈ TB := ⟨⟨(tb_of 1024 (by decide +kernel) (by decide +kernel)), (tb_of 1025 (by decide +kernel) (by decide +kernel))⟩, (tb_of 70 (by decide +kernel) (by decide +kernel)), k_Md_check⟩
