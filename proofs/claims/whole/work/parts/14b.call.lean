/-! 14b.call: calls from the law, laid by gen5.py -/
theorem d_lw_0 : decode code 0 = .ok (.new 8, 3) := by decide +kernel
theorem d_lw_3 : decode code 3 = .ok (.dup, 1) := by decide +kernel
theorem d_lw_4 : decode code 4 = .ok (.invokespecial 35, 3) := by decide +kernel
theorem d_lw_7 : decode code 7 = .ok (.astore_n 1, 1) := by decide +kernel
theorem d_lw_8 : decode code 8 = .ok (.new 36, 3) := by decide +kernel
theorem d_lw_11 : decode code 11 = .ok (.dup, 1) := by decide +kernel
theorem d_lw_12 : decode code 12 = .ok (.invokespecial 38, 3) := by decide +kernel
theorem d_lw_15 : decode code 15 = .ok (.astore_n 2, 1) := by decide +kernel
theorem d_lw_16 : decode code 16 = .ok (.iconst 1, 1) := by decide +kernel
theorem d_lw_17 : decode code 17 = .ok (.newarray .long, 2) := by decide +kernel
theorem d_lw_19 : decode code 19 = .ok (.astore_n 3, 1) := by decide +kernel
theorem d_lw_20 : decode code 20 = .ok (.iconst 0, 1) := by decide +kernel
theorem d_lw_21 : decode code 21 = .ok (.istore 4, 2) := by decide +kernel
theorem d_lw_23 : decode code 23 = .ok (.iload 4, 2) := by decide +kernel
theorem d_lw_25 : decode code 25 = .ok (.aload_n 0, 1) := by decide +kernel
theorem d_lw_26 : decode code 26 = .ok (.arraylength, 1) := by decide +kernel
theorem d_lw_27 : decode code 27 = .ok (.iconst 3, 1) := by decide +kernel
theorem d_lw_28 : decode code 28 = .ok (.isub, 1) := by decide +kernel
theorem d_lw_29 : decode code 29 = .ok (.if_icmp .gt 410, 3) := by decide +kernel
theorem d_lw_32 : decode code 32 = .ok (.aload_n 0, 1) := by decide +kernel
theorem d_lw_33 : decode code 33 = .ok (.iload 4, 2) := by decide +kernel
theorem d_lw_35 : decode code 35 = .ok (.iaload, 1) := by decide +kernel
theorem d_lw_36 : decode code 36 = .ok (.bipush 7, 2) := by decide +kernel
theorem d_lw_38 : decode code 38 = .ok (.iand, 1) := by decide +kernel
theorem d_lw_39 : decode code 39 = .ok (.tableswitch 394 0 7 #[45, 56, 106, 162, 175, 211, 275, 338], 45) := by decide +kernel
theorem d_lw_84 : decode code 84 = .ok (.aload_n 1, 1) := by decide +kernel
theorem d_lw_85 : decode code 85 = .ok (.invokevirtual 39, 3) := by decide +kernel
theorem d_lw_88 : decode code 88 = .ok (.aload_n 2, 1) := by decide +kernel
theorem d_lw_89 : decode code 89 = .ok (.invokevirtual 42, 3) := by decide +kernel
theorem d_lw_92 : decode code 92 = .ok (.goto 341, 3) := by decide +kernel
theorem d_lw_95 : decode code 95 = .ok (.aload_n 1, 1) := by decide +kernel
theorem d_lw_96 : decode code 96 = .ok (.aload_n 0, 1) := by decide +kernel
theorem d_lw_97 : decode code 97 = .ok (.iload 4, 2) := by decide +kernel
theorem d_lw_99 : decode code 99 = .ok (.iconst 1, 1) := by decide +kernel
theorem d_lw_100 : decode code 100 = .ok (.iadd, 1) := by decide +kernel
theorem d_lw_101 : decode code 101 = .ok (.iaload, 1) := by decide +kernel
theorem d_lw_102 : decode code 102 = .ok (.aload_n 0, 1) := by decide +kernel
theorem d_lw_103 : decode code 103 = .ok (.iload 4, 2) := by decide +kernel
theorem d_lw_105 : decode code 105 = .ok (.iconst 2, 1) := by decide +kernel
theorem d_lw_106 : decode code 106 = .ok (.iadd, 1) := by decide +kernel
theorem d_lw_107 : decode code 107 = .ok (.iaload, 1) := by decide +kernel
theorem d_lw_108 : decode code 108 = .ok (.i2c, 1) := by decide +kernel
theorem d_lw_109 : decode code 109 = .ok (.invokestatic 43, 3) := by decide +kernel
theorem d_lw_112 : decode code 112 = .ok (.istore 5, 2) := by decide +kernel
theorem d_lw_114 : decode code 114 = .ok (.aload_n 2, 1) := by decide +kernel
theorem d_lw_115 : decode code 115 = .ok (.aload_n 0, 1) := by decide +kernel
theorem d_lw_116 : decode code 116 = .ok (.iload 4, 2) := by decide +kernel
theorem d_lw_118 : decode code 118 = .ok (.iconst 1, 1) := by decide +kernel
theorem d_lw_119 : decode code 119 = .ok (.iadd, 1) := by decide +kernel
theorem d_lw_120 : decode code 120 = .ok (.iaload, 1) := by decide +kernel
theorem d_lw_121 : decode code 121 = .ok (.aload_n 0, 1) := by decide +kernel
theorem d_lw_122 : decode code 122 = .ok (.iload 4, 2) := by decide +kernel
theorem d_lw_124 : decode code 124 = .ok (.iconst 2, 1) := by decide +kernel
theorem d_lw_125 : decode code 125 = .ok (.iadd, 1) := by decide +kernel
theorem d_lw_126 : decode code 126 = .ok (.iaload, 1) := by decide +kernel
theorem d_lw_127 : decode code 127 = .ok (.i2c, 1) := by decide +kernel
theorem d_lw_128 : decode code 128 = .ok (.invokevirtual 48, 3) := by decide +kernel
theorem d_lw_131 : decode code 131 = .ok (.aload_n 2, 1) := by decide +kernel
theorem d_lw_132 : decode code 132 = .ok (.invokevirtual 49, 3) := by decide +kernel
theorem d_lw_135 : decode code 135 = .ok (.iload 5, 2) := by decide +kernel
theorem d_lw_137 : decode code 137 = .ok (.if_icmp .eq 5, 3) := by decide +kernel
theorem d_lw_140 : decode code 140 = .ok (.iconst 0, 1) := by decide +kernel
theorem d_lw_141 : decode code 141 = .ok (.ireturn, 1) := by decide +kernel
theorem d_lw_142 : decode code 142 = .ok (.goto 291, 3) := by decide +kernel
theorem d_lw_145 : decode code 145 = .ok (.aload_n 1, 1) := by decide +kernel
theorem d_lw_146 : decode code 146 = .ok (.aload_n 0, 1) := by decide +kernel
theorem d_lw_147 : decode code 147 = .ok (.iload 4, 2) := by decide +kernel
theorem d_lw_149 : decode code 149 = .ok (.iconst 1, 1) := by decide +kernel
theorem d_lw_150 : decode code 150 = .ok (.iadd, 1) := by decide +kernel
theorem d_lw_151 : decode code 151 = .ok (.iaload, 1) := by decide +kernel
theorem d_lw_152 : decode code 152 = .ok (.aload_n 3, 1) := by decide +kernel
theorem d_lw_153 : decode code 153 = .ok (.invokestatic 53, 3) := by decide +kernel
theorem d_lw_156 : decode code 156 = .ok (.istore 5, 2) := by decide +kernel
theorem d_lw_158 : decode code 158 = .ok (.aload_n 2, 1) := by decide +kernel
theorem d_lw_159 : decode code 159 = .ok (.aload_n 0, 1) := by decide +kernel
theorem d_lw_160 : decode code 160 = .ok (.iload 4, 2) := by decide +kernel
theorem d_lw_162 : decode code 162 = .ok (.iconst 1, 1) := by decide +kernel
theorem d_lw_163 : decode code 163 = .ok (.iadd, 1) := by decide +kernel
theorem d_lw_164 : decode code 164 = .ok (.iaload, 1) := by decide +kernel
theorem d_lw_165 : decode code 165 = .ok (.invokevirtual 56, 3) := by decide +kernel
theorem d_lw_168 : decode code 168 = .ok (.istore 6, 2) := by decide +kernel
theorem d_lw_170 : decode code 170 = .ok (.aload_n 2, 1) := by decide +kernel
theorem d_lw_171 : decode code 171 = .ok (.invokevirtual 49, 3) := by decide +kernel
theorem d_lw_174 : decode code 174 = .ok (.iload 5, 2) := by decide +kernel
theorem d_lw_176 : decode code 176 = .ok (.if_icmp .eq 5, 3) := by decide +kernel
theorem d_lw_179 : decode code 179 = .ok (.iconst 0, 1) := by decide +kernel
theorem d_lw_180 : decode code 180 = .ok (.ireturn, 1) := by decide +kernel
theorem d_lw_181 : decode code 181 = .ok (.iload 5, 2) := by decide +kernel
theorem d_lw_183 : decode code 183 = .ok (.ifCond .ne 15, 3) := by decide +kernel
theorem d_lw_186 : decode code 186 = .ok (.aload_n 3, 1) := by decide +kernel
theorem d_lw_187 : decode code 187 = .ok (.iconst 0, 1) := by decide +kernel
theorem d_lw_188 : decode code 188 = .ok (.laload, 1) := by decide +kernel
theorem d_lw_189 : decode code 189 = .ok (.iload 6, 2) := by decide +kernel
theorem d_lw_191 : decode code 191 = .ok (.i2l, 1) := by decide +kernel
theorem d_lw_192 : decode code 192 = .ok (.lcmp, 1) := by decide +kernel
theorem d_lw_193 : decode code 193 = .ok (.ifCond .eq 5, 3) := by decide +kernel
theorem d_lw_196 : decode code 196 = .ok (.iconst 0, 1) := by decide +kernel
theorem d_lw_197 : decode code 197 = .ok (.ireturn, 1) := by decide +kernel
theorem d_lw_198 : decode code 198 = .ok (.goto 235, 3) := by decide +kernel
theorem d_lw_201 : decode code 201 = .ok (.aload_n 1, 1) := by decide +kernel
theorem d_lw_202 : decode code 202 = .ok (.invokevirtual 57, 3) := by decide +kernel
theorem d_lw_205 : decode code 205 = .ok (.aload_n 2, 1) := by decide +kernel
theorem d_lw_206 : decode code 206 = .ok (.invokevirtual 60, 3) := by decide +kernel
theorem d_lw_209 : decode code 209 = .ok (.if_icmp .eq 224, 3) := by decide +kernel
theorem d_lw_212 : decode code 212 = .ok (.iconst 0, 1) := by decide +kernel
theorem d_lw_213 : decode code 213 = .ok (.ireturn, 1) := by decide +kernel
theorem d_lw_214 : decode code 214 = .ok (.aload_n 1, 1) := by decide +kernel
theorem d_lw_215 : decode code 215 = .ok (.aload_n 0, 1) := by decide +kernel
theorem d_lw_216 : decode code 216 = .ok (.iload 4, 2) := by decide +kernel
theorem d_lw_218 : decode code 218 = .ok (.iconst 1, 1) := by decide +kernel
theorem d_lw_219 : decode code 219 = .ok (.iadd, 1) := by decide +kernel
theorem d_lw_220 : decode code 220 = .ok (.iaload, 1) := by decide +kernel
theorem d_lw_221 : decode code 221 = .ok (.invokestatic 61, 3) := by decide +kernel
theorem d_lw_224 : decode code 224 = .ok (.istore 5, 2) := by decide +kernel
theorem d_lw_226 : decode code 226 = .ok (.aload_n 2, 1) := by decide +kernel
theorem d_lw_227 : decode code 227 = .ok (.aload_n 0, 1) := by decide +kernel
theorem d_lw_228 : decode code 228 = .ok (.iload 4, 2) := by decide +kernel
theorem d_lw_230 : decode code 230 = .ok (.iconst 1, 1) := by decide +kernel
theorem d_lw_231 : decode code 231 = .ok (.iadd, 1) := by decide +kernel
theorem d_lw_232 : decode code 232 = .ok (.iaload, 1) := by decide +kernel
theorem d_lw_233 : decode code 233 = .ok (.invokevirtual 64, 3) := by decide +kernel
theorem d_lw_236 : decode code 236 = .ok (.aload_n 2, 1) := by decide +kernel
theorem d_lw_237 : decode code 237 = .ok (.invokevirtual 49, 3) := by decide +kernel
theorem d_lw_240 : decode code 240 = .ok (.iload 5, 2) := by decide +kernel
theorem d_lw_242 : decode code 242 = .ok (.if_icmp .eq 5, 3) := by decide +kernel
theorem d_lw_245 : decode code 245 = .ok (.iconst 0, 1) := by decide +kernel
theorem d_lw_246 : decode code 246 = .ok (.ireturn, 1) := by decide +kernel
theorem d_lw_247 : decode code 247 = .ok (.goto 186, 3) := by decide +kernel
theorem d_lw_250 : decode code 250 = .ok (.aload_n 1, 1) := by decide +kernel
theorem d_lw_251 : decode code 251 = .ok (.aload_n 0, 1) := by decide +kernel
theorem d_lw_252 : decode code 252 = .ok (.iload 4, 2) := by decide +kernel
theorem d_lw_254 : decode code 254 = .ok (.iconst 1, 1) := by decide +kernel
theorem d_lw_255 : decode code 255 = .ok (.iadd, 1) := by decide +kernel
theorem d_lw_256 : decode code 256 = .ok (.iaload, 1) := by decide +kernel
theorem d_lw_257 : decode code 257 = .ok (.aload_n 0, 1) := by decide +kernel
theorem d_lw_258 : decode code 258 = .ok (.iload 4, 2) := by decide +kernel
theorem d_lw_260 : decode code 260 = .ok (.iconst 2, 1) := by decide +kernel
theorem d_lw_261 : decode code 261 = .ok (.iadd, 1) := by decide +kernel
theorem d_lw_262 : decode code 262 = .ok (.iaload, 1) := by decide +kernel
theorem d_lw_263 : decode code 263 = .ok (.ifCond .eq 7, 3) := by decide +kernel
theorem d_lw_266 : decode code 266 = .ok (.iconst 1, 1) := by decide +kernel
theorem d_lw_267 : decode code 267 = .ok (.goto 4, 3) := by decide +kernel
theorem d_lw_270 : decode code 270 = .ok (.iconst 0, 1) := by decide +kernel
theorem d_lw_271 : decode code 271 = .ok (.invokestatic 65, 3) := by decide +kernel
theorem d_lw_274 : decode code 274 = .ok (.istore 5, 2) := by decide +kernel
theorem d_lw_276 : decode code 276 = .ok (.aload_n 2, 1) := by decide +kernel
theorem d_lw_277 : decode code 277 = .ok (.aload_n 0, 1) := by decide +kernel
theorem d_lw_278 : decode code 278 = .ok (.iload 4, 2) := by decide +kernel
theorem d_lw_280 : decode code 280 = .ok (.iconst 1, 1) := by decide +kernel
theorem d_lw_281 : decode code 281 = .ok (.iadd, 1) := by decide +kernel
theorem d_lw_282 : decode code 282 = .ok (.iaload, 1) := by decide +kernel
theorem d_lw_283 : decode code 283 = .ok (.aload_n 0, 1) := by decide +kernel
theorem d_lw_284 : decode code 284 = .ok (.iload 4, 2) := by decide +kernel
theorem d_lw_286 : decode code 286 = .ok (.iconst 2, 1) := by decide +kernel
theorem d_lw_287 : decode code 287 = .ok (.iadd, 1) := by decide +kernel
theorem d_lw_288 : decode code 288 = .ok (.iaload, 1) := by decide +kernel
theorem d_lw_289 : decode code 289 = .ok (.ifCond .eq 7, 3) := by decide +kernel
theorem d_lw_292 : decode code 292 = .ok (.iconst 1, 1) := by decide +kernel
theorem d_lw_293 : decode code 293 = .ok (.goto 4, 3) := by decide +kernel
theorem d_lw_296 : decode code 296 = .ok (.iconst 0, 1) := by decide +kernel
theorem d_lw_297 : decode code 297 = .ok (.invokevirtual 68, 3) := by decide +kernel
theorem d_lw_300 : decode code 300 = .ok (.aload_n 2, 1) := by decide +kernel
theorem d_lw_301 : decode code 301 = .ok (.invokevirtual 49, 3) := by decide +kernel
theorem d_lw_304 : decode code 304 = .ok (.iload 5, 2) := by decide +kernel
theorem d_lw_306 : decode code 306 = .ok (.if_icmp .eq 5, 3) := by decide +kernel
theorem d_lw_309 : decode code 309 = .ok (.iconst 0, 1) := by decide +kernel
theorem d_lw_310 : decode code 310 = .ok (.ireturn, 1) := by decide +kernel
theorem d_lw_311 : decode code 311 = .ok (.goto 122, 3) := by decide +kernel
theorem d_lw_314 : decode code 314 = .ok (.aload_n 1, 1) := by decide +kernel
theorem d_lw_315 : decode code 315 = .ok (.aload_n 0, 1) := by decide +kernel
theorem d_lw_316 : decode code 316 = .ok (.iload 4, 2) := by decide +kernel
theorem d_lw_318 : decode code 318 = .ok (.iconst 1, 1) := by decide +kernel
theorem d_lw_319 : decode code 319 = .ok (.iadd, 1) := by decide +kernel
theorem d_lw_320 : decode code 320 = .ok (.iaload, 1) := by decide +kernel
theorem d_lw_321 : decode code 321 = .ok (.aload_n 3, 1) := by decide +kernel
theorem d_lw_322 : decode code 322 = .ok (.invokestatic 69, 3) := by decide +kernel
theorem d_lw_325 : decode code 325 = .ok (.istore 5, 2) := by decide +kernel
theorem d_lw_327 : decode code 327 = .ok (.aload_n 2, 1) := by decide +kernel
theorem d_lw_328 : decode code 328 = .ok (.aload_n 0, 1) := by decide +kernel
theorem d_lw_329 : decode code 329 = .ok (.iload 4, 2) := by decide +kernel
theorem d_lw_331 : decode code 331 = .ok (.iconst 1, 1) := by decide +kernel
theorem d_lw_332 : decode code 332 = .ok (.iadd, 1) := by decide +kernel
theorem d_lw_333 : decode code 333 = .ok (.iaload, 1) := by decide +kernel
theorem d_lw_334 : decode code 334 = .ok (.invokevirtual 71, 3) := by decide +kernel
theorem d_lw_337 : decode code 337 = .ok (.istore 6, 2) := by decide +kernel
theorem d_lw_339 : decode code 339 = .ok (.aload_n 2, 1) := by decide +kernel
theorem d_lw_340 : decode code 340 = .ok (.invokevirtual 49, 3) := by decide +kernel
theorem d_lw_343 : decode code 343 = .ok (.iload 5, 2) := by decide +kernel
theorem d_lw_345 : decode code 345 = .ok (.if_icmp .eq 5, 3) := by decide +kernel
theorem d_lw_348 : decode code 348 = .ok (.iconst 0, 1) := by decide +kernel
theorem d_lw_349 : decode code 349 = .ok (.ireturn, 1) := by decide +kernel
theorem d_lw_350 : decode code 350 = .ok (.iload 5, 2) := by decide +kernel
theorem d_lw_352 : decode code 352 = .ok (.ifCond .ne 22, 3) := by decide +kernel
theorem d_lw_355 : decode code 355 = .ok (.aload_n 3, 1) := by decide +kernel
theorem d_lw_356 : decode code 356 = .ok (.iconst 0, 1) := by decide +kernel
theorem d_lw_357 : decode code 357 = .ok (.laload, 1) := by decide +kernel
theorem d_lw_358 : decode code 358 = .ok (.iload 6, 2) := by decide +kernel
theorem d_lw_360 : decode code 360 = .ok (.ifCond .eq 7, 3) := by decide +kernel
theorem d_lw_363 : decode code 363 = .ok (.lconst 1, 1) := by decide +kernel
theorem d_lw_364 : decode code 364 = .ok (.goto 4, 3) := by decide +kernel
theorem d_lw_367 : decode code 367 = .ok (.lconst 0, 1) := by decide +kernel
theorem d_lw_368 : decode code 368 = .ok (.lcmp, 1) := by decide +kernel
theorem d_lw_369 : decode code 369 = .ok (.ifCond .eq 5, 3) := by decide +kernel
theorem d_lw_372 : decode code 372 = .ok (.iconst 0, 1) := by decide +kernel
theorem d_lw_373 : decode code 373 = .ok (.ireturn, 1) := by decide +kernel
theorem d_lw_374 : decode code 374 = .ok (.goto 59, 3) := by decide +kernel
theorem d_lw_377 : decode code 377 = .ok (.aload_n 1, 1) := by decide +kernel
theorem d_lw_378 : decode code 378 = .ok (.aload_n 0, 1) := by decide +kernel
theorem d_lw_379 : decode code 379 = .ok (.iload 4, 2) := by decide +kernel
theorem d_lw_381 : decode code 381 = .ok (.iconst 1, 1) := by decide +kernel
theorem d_lw_382 : decode code 382 = .ok (.iadd, 1) := by decide +kernel
theorem d_lw_383 : decode code 383 = .ok (.iaload, 1) := by decide +kernel
theorem d_lw_384 : decode code 384 = .ok (.aload_n 3, 1) := by decide +kernel
theorem d_lw_385 : decode code 385 = .ok (.invokestatic 72, 3) := by decide +kernel
theorem d_lw_388 : decode code 388 = .ok (.istore 5, 2) := by decide +kernel
theorem d_lw_390 : decode code 390 = .ok (.aload_n 2, 1) := by decide +kernel
theorem d_lw_391 : decode code 391 = .ok (.aload_n 0, 1) := by decide +kernel
theorem d_lw_392 : decode code 392 = .ok (.iload 4, 2) := by decide +kernel
theorem d_lw_394 : decode code 394 = .ok (.iconst 1, 1) := by decide +kernel
theorem d_lw_395 : decode code 395 = .ok (.iadd, 1) := by decide +kernel
theorem d_lw_396 : decode code 396 = .ok (.iaload, 1) := by decide +kernel
theorem d_lw_397 : decode code 397 = .ok (.invokevirtual 74, 3) := by decide +kernel
theorem d_lw_400 : decode code 400 = .ok (.istore 6, 2) := by decide +kernel
theorem d_lw_402 : decode code 402 = .ok (.aload_n 2, 1) := by decide +kernel
theorem d_lw_403 : decode code 403 = .ok (.invokevirtual 49, 3) := by decide +kernel
theorem d_lw_406 : decode code 406 = .ok (.iload 5, 2) := by decide +kernel
theorem d_lw_408 : decode code 408 = .ok (.if_icmp .eq 5, 3) := by decide +kernel
theorem d_lw_411 : decode code 411 = .ok (.iconst 0, 1) := by decide +kernel
theorem d_lw_412 : decode code 412 = .ok (.ireturn, 1) := by decide +kernel
theorem d_lw_413 : decode code 413 = .ok (.iload 5, 2) := by decide +kernel
theorem d_lw_415 : decode code 415 = .ok (.ifCond .ne 15, 3) := by decide +kernel
theorem d_lw_418 : decode code 418 = .ok (.aload_n 3, 1) := by decide +kernel
theorem d_lw_419 : decode code 419 = .ok (.iconst 0, 1) := by decide +kernel
theorem d_lw_420 : decode code 420 = .ok (.laload, 1) := by decide +kernel
theorem d_lw_421 : decode code 421 = .ok (.iload 6, 2) := by decide +kernel
theorem d_lw_423 : decode code 423 = .ok (.i2l, 1) := by decide +kernel
theorem d_lw_424 : decode code 424 = .ok (.lcmp, 1) := by decide +kernel
theorem d_lw_425 : decode code 425 = .ok (.ifCond .eq 5, 3) := by decide +kernel
theorem d_lw_428 : decode code 428 = .ok (.iconst 0, 1) := by decide +kernel
theorem d_lw_429 : decode code 429 = .ok (.ireturn, 1) := by decide +kernel
theorem d_lw_430 : decode code 430 = .ok (.goto 3, 3) := by decide +kernel
theorem d_lw_433 : decode code 433 = .ok (.iinc 4 3, 3) := by decide +kernel
theorem d_lw_436 : decode code 436 = .ok (.goto (-413), 3) := by decide +kernel
theorem d_lw_439 : decode code 439 = .ok (.iconst 1, 1) := by decide +kernel
theorem d_lw_440 : decode code 440 = .ok (.ireturn, 1) := by decide +kernel
theorem hB : ∀ w ∈ TB, w ∈ lw_tbl := fun _ h => (List.mem_filter.mp h).1
def An0 (s : State) : Nat → Prop := fun q => s.heap.size ≤ q
abbrev T51 : String := "no word has this address"
abbrev T93 : String := "no level has this number"
abbrev T98 : String := "no line has this number"
abbrev T113 : String := "no part of the state has this number"
/-- what stays through the law's loop -/
def LF (p : Program) (l : Launch) (s : State) (m : MethodId) (meth : Method) (c : Code) (b L : Nat) (xs : Nat → Int32) (D : va_G) (a : CAd) (o : OAd) (r : RAd) : Prop :=
  (p.tables.exec = Jvm.exec ∧ c.code = code ∧ meth.sig.returnType = ret ∧ c.maxLocals = 7 ∧ s.vm.findClass R_La = some m.cls ∧ (∀ w ∈ lw_tbl, w.before #[Value.ref b] s = true) ∧ va_X b L xs s s.heap ∧ b < s.heap.size ∧ meth.locks = false) ∧
  l.flags = pinnedFlags ++ [noTraceFlag] ∧ (va_K D kl (tyO a o) s ∧ va_K D kl (tyR r) s) ∧ (ApO a o ∧ ApR r) ∧ ((∀ q, FAo a o q → An0 s q) ∧ (∀ q, FB r q → An0 s q) ∧ ∀ q, FAo a o q → ¬ FB r q) ∧
  (TA (An0 s) s s.heap ∧ TN s) ∧ ((∃ q, vk_R R_M 51 T51 q s) ∧ (∃ q, vk_R R_M 93 T93 q s) ∧ (∃ q, vk_R R_M 98 T98 q s) ∧ ∃ q, vk_R R_M 113 T113 q s)
section LC
variable {p : Program} {l : Launch} {e : Env} {s : State} {m : MethodId} {below : List Frame} {meth : Method} {c : Code} {b L : Nat} {xs : Nat → Int32} {D : va_G} {a : CAd} {o : OAd} {r : RAd} {H : Heap} {locs : List Loc} {cells slots : Nat} {Q : State → Prop} {pc : Nat} {ls : Array Slot} {As rest st0 : List Value} {y : MethodName} {bts : ByteArray} {n k index : Nat} {rr : Option FieldType} {rm : Room} {rv : Option Value}
theorem keepR {v : RSt} {H1 : Heap} (hA : ApR r) (h : va_P D kl (mw r v) H) (hk : ∀ q : Nat, q < H.size → FB r q → H1[q]? = H[q]?) : va_P D kl (mw r v) H1 := h.kept fun k q hq => hk q.1 (h k q hq).lt ((dd_R hA v).2 k q hq)
theorem keepO {σ : LSt} {H1 : Heap} (hA : ApO a o) (h : va_P D kl (cwo a o σ) H) (hk : ∀ q : Nat, q < H.size → FAo a o q → H1[q]? = H[q]?) : va_P D kl (cwo a o σ) H1 := h.kept fun k q hq => hk q.1 (h k q hq).lt ((D_o hA σ).2 k q hq)
/-- a call of the class's -/
theorem lc_V (F : LF p l s m meth c b L xs D a o r) {u u' : CSt} {f : Nat → Int64} {v : RSt} (hM : MC kl (cw a) (FA a) (tyC a) l D y bts n rr rm (.ref a.1 :: As) u rv u') (cwx : CallW room_1 s #[Value.ref b] R_La R_M index y bts n rr (wC y bts n rr) rm 0 0 k)
    (hP : va_P D kl (cwo a o (u, f)) H) (hQ : va_P D kl (mw r v) H) (hS : va_S (An0 s) s.heap H locs) (hn : As.length = k) (hsz : ls.size = 7) (hst : st0 = As.reverse ++ .ref a.1 :: rest) (h8 : (rest.map fun v => v.category).sum ≤ 8) (hdg : decode code pc = .ok (.invokevirtual index, 3)) (hf : cells + 1 ≤ room_1.cells ∧ slots + 6 ≤ room_1.slots)
    (kk : ∀ (H1 : Heap) (locs1 : List Loc), va_P D kl (cwo a o (u', f)) H1 → va_P D kl (mw r v) H1 → va_S (An0 s) s.heap H1 locs1 → W p l e room_1 s m #[Value.ref b] below meth c H1 locs1 cells slots Q (F0 m (pc + 3) ls (rv.toList ++ rest))) : W p l e room_1 s m #[Value.ref b] below meth c H locs cells slots Q (F0 m pc ls st0) := by
  obtain ⟨⟨hx, hb, -, hml, hown, hts, -, -, -⟩, -, ⟨hK, -⟩, ⟨hA, hAR⟩, ⟨hn1, -, hn3⟩, -, -⟩ := F
  refine run_go (va_runV (g := F0 m pc ls st0) (rest := rest) (As := As) (b := a.1) (C := R_M) ⟨hx, hb, hml, hown, hts⟩ hM cwx ⟨mc_blind, va_recv (q0 := 0) (ci := 3) (q := (R_M, F_M, 7)) hK (P_c hP) rfl rfl, fun U hU hW => ⟨rfl, by rw [hU]; exact P_c hP, va_K.moved hW.alike (K_c hK)⟩⟩ rfl hn hsz hst (lv_room h8) hdg ⟨by omega, by omega⟩) (fun v st₀ t L h0 hq hL hAl => ?_)
  obtain ⟨hv, hP1, hF⟩ := hq
  cases hv
  rw [va_F, h0] at hF
  have hO : t.heap[o.1]? = some (vp_cell o.2 (1, .inr (.inl f))) := by rw [hF.2 o.1 (Array.getElem?_eq_some_iff.mp (P_o hP)).1 hA.2]; exact P_o hP
  exact kk t.heap (locs ++ L) (P_co hP1 hO) (keepR hAR hQ fun q h1 h2 => hF.2 q h1 fun z => hn3 q (Or.inl z) h2) (S_call hS hF.1 hF.2 hL fun q h => hn1 q (Or.inl h))
/-- a call of the reference's -/
theorem lc_R (F : LF p l s m meth c b L xs D a o r) {σ : LSt} {v v' : RSt} (hM : MC kl (mw r) (FB r) (tyR r) l D y bts n rr rm (.ref r.1 :: As) v rv v') (cwx : CallW room_1 s #[Value.ref b] R_La R_Mo index y bts n rr (wC y bts n rr) rm 0 0 k)
    (hP : va_P D kl (cwo a o σ) H) (hQ : va_P D kl (mw r v) H) (hS : va_S (An0 s) s.heap H locs) (hn : As.length = k) (hsz : ls.size = 7) (hst : st0 = As.reverse ++ .ref r.1 :: rest) (h8 : (rest.map fun v => v.category).sum ≤ 8) (hdg : decode code pc = .ok (.invokevirtual index, 3)) (hf : cells ≤ room_1.cells ∧ slots ≤ room_1.slots)
    (kk : ∀ (H1 : Heap) (locs1 : List Loc), va_P D kl (cwo a o σ) H1 → va_P D kl (mw r v') H1 → va_S (An0 s) s.heap H1 locs1 → W p l e room_1 s m #[Value.ref b] below meth c H1 locs1 cells slots Q (F0 m (pc + 3) ls (rv.toList ++ rest))) : W p l e room_1 s m #[Value.ref b] below meth c H locs cells slots Q (F0 m pc ls st0) := by
  obtain ⟨⟨hx, hb, -, hml, hown, hts, -, -, -⟩, -, ⟨-, hK⟩, ⟨hA, hAR⟩, ⟨-, hn2, hn3⟩, -, -⟩ := F
  refine run_go (va_runV (g := F0 m pc ls st0) (rest := rest) (As := As) (b := r.1) (C := R_Mo) ⟨hx, hb, hml, hown, hts⟩ hM cwx ⟨mc_blind, va_recv (q0 := 0) (ci := 4) (q := (R_Mo, F_Mo, 10)) hK hQ rfl rfl, fun U hU hW => ⟨rfl, by rw [hU]; exact hQ, va_K.moved hW.alike hK⟩⟩ rfl hn hsz hst (lv_room h8) hdg ⟨by omega, by omega⟩) (fun v st₀ t L h0 hq hL hAl => ?_)
  obtain ⟨hv, hP1, hF⟩ := hq
  cases hv
  rw [va_F, h0] at hF
  exact kk t.heap (locs ++ L) (keepO hA hP fun q h1 h2 => hF.2 q h1 fun z => hn3 q h2 z) hP1 (S_call hS hF.1 hF.2 hL hn2)
/-- a call of a wrapper -/
theorem lc_W (F : LF p l s m meth c b L xs D a o r) {σ σ' : LSt} {v : RSt} {rvi : Int32} {hh : List (Nat × Nat × Nat × Nat)} {im : Nat} {tx : String} (hM : MW a o l D y bts n hh rmW As (KT im tx) σ rvi σ') (hcW : Cond.codeWith y bts n (some .int) hh ∈ TB) (hml0 : Cond.methodLink R_La index y ∈ TB) (hst0 : Cond.static y ∈ TB) (hini : Cond.initialized y.cls ∈ TB)
    (hd : (y.cls ≠ "java/lang/invoke/MethodHandle" ∧ y.cls ≠ "java/lang/invoke/VarHandle") ∧ (parseMethodDescriptor y.desc).map (fun d => d.parameters.length) = some k) (hR : rmW.frames + 1 ≤ room_1.frames ∧ 8 + (n + 11) + rmW.locals ≤ room_1.locals) (hstr : ∃ q, vk_R R_M im tx q s)
    (hP : va_P D kl (cwo a o σ) H) (hQ : va_P D kl (mw r v) H) (hS : va_S (An0 s) s.heap H locs) (hn : As.length = k) (hsz : ls.size = 7) (hst : st0 = As.reverse ++ rest) (h8 : (rest.map fun v => v.category).sum ≤ 8) (hdg : decode code pc = .ok (.invokestatic index, 3)) (hf : cells + 1 ≤ room_1.cells ∧ slots + 6 ≤ room_1.slots)
    (kk : ∀ (H1 : Heap) (locs1 : List Loc), va_P D kl (cwo a o σ') H1 → va_P D kl (mw r v) H1 → va_S (An0 s) s.heap H1 locs1 → W p l e room_1 s m #[Value.ref b] below meth c H1 locs1 (cells + 1) (slots + 6) Q (F0 m (pc + 3) ls (.int rvi :: rest))) : W p l e room_1 s m #[Value.ref b] below meth c H locs cells slots Q (F0 m pc ls st0) := by
  obtain ⟨⟨hx, hb, -, hml, hown, hts, -, -, -⟩, -, ⟨hK, -⟩, ⟨hA, hAR⟩, ⟨hn1, -, hn3⟩, ⟨hTA, hTN⟩, -⟩ := F
  refine run_go (sw_run (g := F0 m pc ls st0) (rest := rest) (As := As) ⟨hx, hb, hml, hown, hts⟩ hM (gg_W hB hcW) (hts _ (hB _ hml0)) (hts _ (hB _ hst0)) (hts _ (hB _ hini)) rfl rfl hd hR ⟨fun a' U g mk q => ⟨q.1, ⟨q.2.1.1, va_K.moved (u := U) (U := U.calling g mk a') (Vm.Alike.refl U.vm) q.2.1.2⟩, KT.same (s := U) (U := U.calling g mk a') rfl rfl q.2.2⟩, fun U hU hW => ⟨rfl, ⟨by rw [hU]; exact hP, va_K.moved hW.alike hK⟩, ⟨?_, hTN.warm hW⟩, ?_⟩⟩ rfl hn hsz hst (lv_room h8) hdg hf) (fun v st₀ t L h0 hq hL hAl => ?_)
  · rw [hU]
    exact ((hTA.kept hS.2.1).moved hW.alike).narrow fun _ h => h.elim
  · obtain ⟨q, hq⟩ := hstr
    exact ⟨q, hq.warm hW⟩
  · obtain ⟨hv, hP1, hF⟩ := hq
    cases hv
    rw [va_F, h0] at hF
    exact kk t.heap (locs ++ L) hP1 (keepR hAR hQ fun q h1 h2 => hF.2 q h1 fun z => hn3 q z h2) (S_call hS hF.1 hF.2 hL hn1)
end LC
