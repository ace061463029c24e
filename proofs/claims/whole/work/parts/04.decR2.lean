/-! decode rows, laid by gen.py -/
theorem d_Mo_oneOperand_117 : decode b_Mo_oneOperand 117 = .ok (.bipush 8, 2) := by decide +kernel
theorem d_Mo_oneOperand_119 : decode b_Mo_oneOperand 119 = .ok (.if_icmp .ne 8, 3) := by decide +kernel
theorem d_Mo_oneOperand_122 : decode b_Mo_oneOperand 122 = .ok (.ldc 24, 2) := by decide +kernel
theorem d_Mo_oneOperand_124 : decode b_Mo_oneOperand 124 = .ok (.goto 5, 3) := by decide +kernel
theorem d_Mo_oneOperand_127 : decode b_Mo_oneOperand 127 = .ok (.ldc 113, 2) := by decide +kernel
theorem d_Mo_oneOperand_129 : decode b_Mo_oneOperand 129 = .ok (.iconst 0, 1) := by decide +kernel
theorem d_Mo_oneOperand_130 : decode b_Mo_oneOperand 130 = .ok (.iconst 0, 1) := by decide +kernel
theorem d_Mo_oneOperand_131 : decode b_Mo_oneOperand 131 = .ok (.invokevirtual 78, 3) := by decide +kernel
theorem d_Mo_oneOperand_134 : decode b_Mo_oneOperand 134 = .ok (.istore 5, 2) := by decide +kernel
theorem d_Mo_oneOperand_136 : decode b_Mo_oneOperand 136 = .ok (.aload_n 0, 1) := by decide +kernel
theorem d_Mo_oneOperand_137 : decode b_Mo_oneOperand 137 = .ok (.iload 5, 2) := by decide +kernel
theorem d_Mo_oneOperand_139 : decode b_Mo_oneOperand 139 = .ok (.invokevirtual 82, 3) := by decide +kernel
theorem d_Mo_oneOperand_142 : decode b_Mo_oneOperand 142 = .ok (.aload_n 0, 1) := by decide +kernel
theorem d_Mo_oneOperand_143 : decode b_Mo_oneOperand 143 = .ok (.iload_n 3, 1) := by decide +kernel
theorem d_Mo_oneOperand_144 : decode b_Mo_oneOperand 144 = .ok (.iload 5, 2) := by decide +kernel
theorem d_Mo_oneOperand_146 : decode b_Mo_oneOperand 146 = .ok (.invokevirtual 32, 3) := by decide +kernel
theorem d_Mo_oneOperand_149 : decode b_Mo_oneOperand 149 = .ok (.goto 189, 3) := by decide +kernel
theorem d_Mo_oneOperand_152 : decode b_Mo_oneOperand 152 = .ok (.iload_n 2, 1) := by decide +kernel
theorem d_Mo_oneOperand_153 : decode b_Mo_oneOperand 153 = .ok (.bipush 13, 2) := by decide +kernel
theorem d_Mo_oneOperand_155 : decode b_Mo_oneOperand 155 = .ok (.if_icmp .ne 55, 3) := by decide +kernel
theorem d_Mo_oneOperand_158 : decode b_Mo_oneOperand 158 = .ok (.aload_n 0, 1) := by decide +kernel
theorem d_Mo_oneOperand_159 : decode b_Mo_oneOperand 159 = .ok (.iload 4, 2) := by decide +kernel
theorem d_Mo_oneOperand_161 : decode b_Mo_oneOperand 161 = .ok (.invokevirtual 82, 3) := by decide +kernel
theorem d_Mo_oneOperand_164 : decode b_Mo_oneOperand 164 = .ok (.aload_n 0, 1) := by decide +kernel
theorem d_Mo_oneOperand_165 : decode b_Mo_oneOperand 165 = .ok (.sipush 2048, 3) := by decide +kernel
theorem d_Mo_oneOperand_168 : decode b_Mo_oneOperand 168 = .ok (.iload 4, 2) := by decide +kernel
theorem d_Mo_oneOperand_170 : decode b_Mo_oneOperand 170 = .ok (.ldc 60, 2) := by decide +kernel
theorem d_Mo_oneOperand_172 : decode b_Mo_oneOperand 172 = .ok (.if_icmp .ne 7, 3) := by decide +kernel
theorem d_Mo_oneOperand_175 : decode b_Mo_oneOperand 175 = .ok (.iconst 1, 1) := by decide +kernel
theorem d_Mo_oneOperand_176 : decode b_Mo_oneOperand 176 = .ok (.goto 4, 3) := by decide +kernel
theorem d_Mo_oneOperand_179 : decode b_Mo_oneOperand 179 = .ok (.iconst 0, 1) := by decide +kernel
theorem d_Mo_oneOperand_180 : decode b_Mo_oneOperand 180 = .ok (.invokevirtual 61, 3) := by decide +kernel
theorem d_Mo_oneOperand_183 : decode b_Mo_oneOperand 183 = .ok (.aload_n 0, 1) := by decide +kernel
theorem d_Mo_oneOperand_184 : decode b_Mo_oneOperand 184 = .ok (.sipush 4096, 3) := by decide +kernel
theorem d_Mo_oneOperand_187 : decode b_Mo_oneOperand 187 = .ok (.iconst 0, 1) := by decide +kernel
theorem d_Mo_oneOperand_188 : decode b_Mo_oneOperand 188 = .ok (.invokevirtual 61, 3) := by decide +kernel
theorem d_Mo_oneOperand_191 : decode b_Mo_oneOperand 191 = .ok (.iload 4, 2) := by decide +kernel
theorem d_Mo_oneOperand_193 : decode b_Mo_oneOperand 193 = .ok (.sipush 32767, 3) := by decide +kernel
theorem d_Mo_oneOperand_196 : decode b_Mo_oneOperand 196 = .ok (.if_icmp .le 142, 3) := by decide +kernel
theorem d_Mo_oneOperand_199 : decode b_Mo_oneOperand 199 = .ok (.aload_n 0, 1) := by decide +kernel
theorem d_Mo_oneOperand_200 : decode b_Mo_oneOperand 200 = .ok (.iload_n 3, 1) := by decide +kernel
theorem d_Mo_oneOperand_201 : decode b_Mo_oneOperand 201 = .ok (.iload 4, 2) := by decide +kernel
theorem d_Mo_oneOperand_203 : decode b_Mo_oneOperand 203 = .ok (.ineg, 1) := by decide +kernel
theorem d_Mo_oneOperand_204 : decode b_Mo_oneOperand 204 = .ok (.invokevirtual 32, 3) := by decide +kernel
theorem d_Mo_oneOperand_207 : decode b_Mo_oneOperand 207 = .ok (.goto 131, 3) := by decide +kernel
theorem d_Mo_oneOperand_210 : decode b_Mo_oneOperand 210 = .ok (.iload_n 2, 1) := by decide +kernel
theorem d_Mo_oneOperand_211 : decode b_Mo_oneOperand 211 = .ok (.iconst 4, 1) := by decide +kernel
theorem d_Mo_oneOperand_212 : decode b_Mo_oneOperand 212 = .ok (.if_icmp .eq 8, 3) := by decide +kernel
theorem d_Mo_oneOperand_215 : decode b_Mo_oneOperand 215 = .ok (.iload_n 2, 1) := by decide +kernel
theorem d_Mo_oneOperand_216 : decode b_Mo_oneOperand 216 = .ok (.iconst 5, 1) := by decide +kernel
theorem d_Mo_oneOperand_217 : decode b_Mo_oneOperand 217 = .ok (.if_icmp .ne 85, 3) := by decide +kernel
theorem d_Mo_oneOperand_220 : decode b_Mo_oneOperand 220 = .ok (.iload_n 2, 1) := by decide +kernel
theorem d_Mo_oneOperand_221 : decode b_Mo_oneOperand 221 = .ok (.iconst 4, 1) := by decide +kernel
theorem d_Mo_oneOperand_222 : decode b_Mo_oneOperand 222 = .ok (.if_icmp .ne 9, 3) := by decide +kernel
theorem d_Mo_oneOperand_225 : decode b_Mo_oneOperand 225 = .ok (.iload 4, 2) := by decide +kernel
theorem d_Mo_oneOperand_227 : decode b_Mo_oneOperand 227 = .ok (.ineg, 1) := by decide +kernel
theorem d_Mo_oneOperand_228 : decode b_Mo_oneOperand 228 = .ok (.goto 7, 3) := by decide +kernel
theorem d_Mo_oneOperand_231 : decode b_Mo_oneOperand 231 = .ok (.iload 4, 2) := by decide +kernel
theorem d_Mo_oneOperand_233 : decode b_Mo_oneOperand 233 = .ok (.iconst (-1), 1) := by decide +kernel
theorem d_Mo_oneOperand_234 : decode b_Mo_oneOperand 234 = .ok (.ixor, 1) := by decide +kernel
theorem d_Mo_oneOperand_235 : decode b_Mo_oneOperand 235 = .ok (.ldc 24, 2) := by decide +kernel
theorem d_Mo_oneOperand_237 : decode b_Mo_oneOperand 237 = .ok (.iand, 1) := by decide +kernel
theorem d_Mo_oneOperand_238 : decode b_Mo_oneOperand 238 = .ok (.istore 5, 2) := by decide +kernel
theorem d_Mo_oneOperand_240 : decode b_Mo_oneOperand 240 = .ok (.aload_n 0, 1) := by decide +kernel
theorem d_Mo_oneOperand_241 : decode b_Mo_oneOperand 241 = .ok (.iload 5, 2) := by decide +kernel
theorem d_Mo_oneOperand_243 : decode b_Mo_oneOperand 243 = .ok (.invokevirtual 82, 3) := by decide +kernel
theorem d_Mo_oneOperand_246 : decode b_Mo_oneOperand 246 = .ok (.iload_n 2, 1) := by decide +kernel
theorem d_Mo_oneOperand_247 : decode b_Mo_oneOperand 247 = .ok (.iconst 4, 1) := by decide +kernel
theorem d_Mo_oneOperand_248 : decode b_Mo_oneOperand 248 = .ok (.if_icmp .ne 20, 3) := by decide +kernel
theorem d_Mo_oneOperand_251 : decode b_Mo_oneOperand 251 = .ok (.aload_n 0, 1) := by decide +kernel
theorem d_Mo_oneOperand_252 : decode b_Mo_oneOperand 252 = .ok (.sipush 4096, 3) := by decide +kernel
theorem d_Mo_oneOperand_255 : decode b_Mo_oneOperand 255 = .ok (.iload 4, 2) := by decide +kernel
theorem d_Mo_oneOperand_257 : decode b_Mo_oneOperand 257 = .ok (.ifCond .ne 7, 3) := by decide +kernel
theorem d_Mo_oneOperand_260 : decode b_Mo_oneOperand 260 = .ok (.iconst 1, 1) := by decide +kernel
theorem d_Mo_oneOperand_261 : decode b_Mo_oneOperand 261 = .ok (.goto 4, 3) := by decide +kernel
theorem d_Mo_oneOperand_264 : decode b_Mo_oneOperand 264 = .ok (.iconst 0, 1) := by decide +kernel
theorem d_Mo_oneOperand_265 : decode b_Mo_oneOperand 265 = .ok (.invokevirtual 61, 3) := by decide +kernel
theorem d_Mo_oneOperand_268 : decode b_Mo_oneOperand 268 = .ok (.iload_n 2, 1) := by decide +kernel
theorem d_Mo_oneOperand_269 : decode b_Mo_oneOperand 269 = .ok (.iconst 4, 1) := by decide +kernel
theorem d_Mo_oneOperand_270 : decode b_Mo_oneOperand 270 = .ok (.if_icmp .ne 22, 3) := by decide +kernel
theorem d_Mo_oneOperand_273 : decode b_Mo_oneOperand 273 = .ok (.aload_n 0, 1) := by decide +kernel
theorem d_Mo_oneOperand_274 : decode b_Mo_oneOperand 274 = .ok (.sipush 2048, 3) := by decide +kernel
theorem d_Mo_oneOperand_277 : decode b_Mo_oneOperand 277 = .ok (.iload 4, 2) := by decide +kernel
theorem d_Mo_oneOperand_279 : decode b_Mo_oneOperand 279 = .ok (.ldc 60, 2) := by decide +kernel
theorem d_Mo_oneOperand_281 : decode b_Mo_oneOperand 281 = .ok (.if_icmp .ne 7, 3) := by decide +kernel
theorem d_Mo_oneOperand_284 : decode b_Mo_oneOperand 284 = .ok (.iconst 1, 1) := by decide +kernel
theorem d_Mo_oneOperand_285 : decode b_Mo_oneOperand 285 = .ok (.goto 4, 3) := by decide +kernel
theorem d_Mo_oneOperand_288 : decode b_Mo_oneOperand 288 = .ok (.iconst 0, 1) := by decide +kernel
theorem d_Mo_oneOperand_289 : decode b_Mo_oneOperand 289 = .ok (.invokevirtual 61, 3) := by decide +kernel
theorem d_Mo_oneOperand_292 : decode b_Mo_oneOperand 292 = .ok (.aload_n 0, 1) := by decide +kernel
theorem d_Mo_oneOperand_293 : decode b_Mo_oneOperand 293 = .ok (.iload_n 3, 1) := by decide +kernel
theorem d_Mo_oneOperand_294 : decode b_Mo_oneOperand 294 = .ok (.iload 5, 2) := by decide +kernel
theorem d_Mo_oneOperand_296 : decode b_Mo_oneOperand 296 = .ok (.invokevirtual 32, 3) := by decide +kernel
theorem d_Mo_oneOperand_299 : decode b_Mo_oneOperand 299 = .ok (.goto 39, 3) := by decide +kernel
theorem d_Mo_oneOperand_302 : decode b_Mo_oneOperand 302 = .ok (.aload_n 0, 1) := by decide +kernel
theorem d_Mo_oneOperand_303 : decode b_Mo_oneOperand 303 = .ok (.iload_n 3, 1) := by decide +kernel
theorem d_Mo_oneOperand_304 : decode b_Mo_oneOperand 304 = .ok (.iload_n 2, 1) := by decide +kernel
theorem d_Mo_oneOperand_305 : decode b_Mo_oneOperand 305 = .ok (.iconst 3, 1) := by decide +kernel
theorem d_Mo_oneOperand_306 : decode b_Mo_oneOperand 306 = .ok (.if_icmp .ne 7, 3) := by decide +kernel
theorem d_Mo_oneOperand_309 : decode b_Mo_oneOperand 309 = .ok (.iconst 0, 1) := by decide +kernel
theorem d_Mo_oneOperand_310 : decode b_Mo_oneOperand 310 = .ok (.goto 25, 3) := by decide +kernel
theorem d_Mo_oneOperand_313 : decode b_Mo_oneOperand 313 = .ok (.iload_n 2, 1) := by decide +kernel
theorem d_Mo_oneOperand_314 : decode b_Mo_oneOperand 314 = .ok (.bipush 12, 2) := by decide +kernel
theorem d_Mo_oneOperand_316 : decode b_Mo_oneOperand 316 = .ok (.if_icmp .ne 8, 3) := by decide +kernel
theorem d_Mo_oneOperand_319 : decode b_Mo_oneOperand 319 = .ok (.ldc 24, 2) := by decide +kernel
theorem d_Mo_oneOperand_321 : decode b_Mo_oneOperand 321 = .ok (.goto 14, 3) := by decide +kernel
theorem d_Mo_oneOperand_324 : decode b_Mo_oneOperand 324 = .ok (.iload 4, 2) := by decide +kernel
theorem d_Mo_oneOperand_326 : decode b_Mo_oneOperand 326 = .ok (.bipush 8, 2) := by decide +kernel
theorem d_Mo_oneOperand_328 : decode b_Mo_oneOperand 328 = .ok (.ishr, 1) := by decide +kernel
theorem d_Mo_oneOperand_329 : decode b_Mo_oneOperand 329 = .ok (.iload 4, 2) := by decide +kernel
theorem d_Mo_oneOperand_331 : decode b_Mo_oneOperand 331 = .ok (.bipush 8, 2) := by decide +kernel
theorem d_Mo_oneOperand_333 : decode b_Mo_oneOperand 333 = .ok (.ishl, 1) := by decide +kernel
theorem d_Mo_oneOperand_334 : decode b_Mo_oneOperand 334 = .ok (.ior, 1) := by decide +kernel
theorem d_Mo_oneOperand_335 : decode b_Mo_oneOperand 335 = .ok (.invokevirtual 32, 3) := by decide +kernel
theorem d_Mo_oneOperand_338 : decode b_Mo_oneOperand 338 = .ok (.return_, 1) := by decide +kernel
theorem d_Mo_immediate_0 : decode b_Mo_immediate 0 = .ok (.aload_n 0, 1) := by decide +kernel
theorem d_Mo_immediate_1 : decode b_Mo_immediate 1 = .ok (.invokevirtual 43, 3) := by decide +kernel
theorem d_Mo_immediate_4 : decode b_Mo_immediate 4 = .ok (.istore_n 3, 1) := by decide +kernel
theorem d_Mo_immediate_5 : decode b_Mo_immediate 5 = .ok (.aload_n 0, 1) := by decide +kernel
theorem d_Mo_immediate_6 : decode b_Mo_immediate 6 = .ok (.iload_n 2, 1) := by decide +kernel
theorem d_Mo_immediate_7 : decode b_Mo_immediate 7 = .ok (.invokevirtual 40, 3) := by decide +kernel
theorem d_Mo_immediate_10 : decode b_Mo_immediate 10 = .ok (.istore 4, 2) := by decide +kernel
theorem d_Mo_immediate_12 : decode b_Mo_immediate 12 = .ok (.iload_n 1, 1) := by decide +kernel
theorem d_Mo_immediate_13 : decode b_Mo_immediate 13 = .ok (.bipush 7, 2) := by decide +kernel
theorem d_Mo_immediate_15 : decode b_Mo_immediate 15 = .ok (.if_icmp .ne 15, 3) := by decide +kernel
theorem d_Mo_immediate_18 : decode b_Mo_immediate 18 = .ok (.aload_n 0, 1) := by decide +kernel
theorem d_Mo_immediate_19 : decode b_Mo_immediate 19 = .ok (.iload_n 3, 1) := by decide +kernel
theorem d_Mo_immediate_20 : decode b_Mo_immediate 20 = .ok (.sipush 1022, 3) := by decide +kernel
theorem d_Mo_immediate_23 : decode b_Mo_immediate 23 = .ok (.iand, 1) := by decide +kernel
theorem d_Mo_immediate_24 : decode b_Mo_immediate 24 = .ok (.putfield 25, 3) := by decide +kernel
theorem d_Mo_immediate_27 : decode b_Mo_immediate 27 = .ok (.goto 88, 3) := by decide +kernel
theorem d_Mo_immediate_30 : decode b_Mo_immediate 30 = .ok (.iload_n 1, 1) := by decide +kernel
theorem d_Mo_immediate_31 : decode b_Mo_immediate 31 = .ok (.bipush 8, 2) := by decide +kernel
theorem d_Mo_immediate_33 : decode b_Mo_immediate 33 = .ok (.if_icmp .ne 11, 3) := by decide +kernel
theorem d_Mo_immediate_36 : decode b_Mo_immediate 36 = .ok (.aload_n 0, 1) := by decide +kernel
theorem d_Mo_immediate_37 : decode b_Mo_immediate 37 = .ok (.iload_n 3, 1) := by decide +kernel
theorem d_Mo_immediate_38 : decode b_Mo_immediate 38 = .ok (.invokevirtual 114, 3) := by decide +kernel
theorem d_Mo_immediate_41 : decode b_Mo_immediate 41 = .ok (.goto 74, 3) := by decide +kernel
theorem d_Mo_immediate_44 : decode b_Mo_immediate 44 = .ok (.iload_n 1, 1) := by decide +kernel
theorem d_Mo_immediate_45 : decode b_Mo_immediate 45 = .ok (.iconst 4, 1) := by decide +kernel
theorem d_Mo_immediate_46 : decode b_Mo_immediate 46 = .ok (.if_icmp .ne 13, 3) := by decide +kernel
theorem d_Mo_immediate_49 : decode b_Mo_immediate 49 = .ok (.aload_n 0, 1) := by decide +kernel
theorem d_Mo_immediate_50 : decode b_Mo_immediate 50 = .ok (.iload 4, 2) := by decide +kernel
theorem d_Mo_immediate_52 : decode b_Mo_immediate 52 = .ok (.iload_n 3, 1) := by decide +kernel
theorem d_Mo_immediate_53 : decode b_Mo_immediate 53 = .ok (.invokevirtual 68, 3) := by decide +kernel
theorem d_Mo_immediate_56 : decode b_Mo_immediate 56 = .ok (.goto 59, 3) := by decide +kernel
theorem d_Mo_immediate_59 : decode b_Mo_immediate 59 = .ok (.iload_n 1, 1) := by decide +kernel
theorem d_Mo_immediate_60 : decode b_Mo_immediate 60 = .ok (.ifCond .ne 7, 3) := by decide +kernel
theorem d_Mo_immediate_63 : decode b_Mo_immediate 63 = .ok (.iload_n 3, 1) := by decide +kernel
theorem d_Mo_immediate_64 : decode b_Mo_immediate 64 = .ok (.goto 36, 3) := by decide +kernel
theorem d_Mo_immediate_67 : decode b_Mo_immediate 67 = .ok (.iload_n 1, 1) := by decide +kernel
theorem d_Mo_immediate_68 : decode b_Mo_immediate 68 = .ok (.iconst 1, 1) := by decide +kernel
theorem d_Mo_immediate_69 : decode b_Mo_immediate 69 = .ok (.if_icmp .ne 15, 3) := by decide +kernel
theorem d_Mo_immediate_72 : decode b_Mo_immediate 72 = .ok (.aload_n 0, 1) := by decide +kernel
theorem d_Mo_immediate_73 : decode b_Mo_immediate 73 = .ok (.iload 4, 2) := by decide +kernel
theorem d_Mo_immediate_75 : decode b_Mo_immediate 75 = .ok (.iload_n 3, 1) := by decide +kernel
theorem d_Mo_immediate_76 : decode b_Mo_immediate 76 = .ok (.iconst 0, 1) := by decide +kernel
theorem d_Mo_immediate_77 : decode b_Mo_immediate 77 = .ok (.iconst 0, 1) := by decide +kernel
theorem d_Mo_immediate_78 : decode b_Mo_immediate 78 = .ok (.invokevirtual 78, 3) := by decide +kernel
theorem d_Mo_immediate_81 : decode b_Mo_immediate 81 = .ok (.goto 19, 3) := by decide +kernel
theorem d_Mo_immediate_84 : decode b_Mo_immediate 84 = .ok (.iload_n 1, 1) := by decide +kernel
theorem d_Mo_immediate_85 : decode b_Mo_immediate 85 = .ok (.iconst 2, 1) := by decide +kernel
theorem d_Mo_immediate_86 : decode b_Mo_immediate 86 = .ok (.if_icmp .ne 10, 3) := by decide +kernel
theorem d_Mo_immediate_89 : decode b_Mo_immediate 89 = .ok (.iload 4, 2) := by decide +kernel
theorem d_Mo_immediate_91 : decode b_Mo_immediate 91 = .ok (.iload_n 3, 1) := by decide +kernel
theorem d_Mo_immediate_92 : decode b_Mo_immediate 92 = .ok (.iand, 1) := by decide +kernel
theorem d_Mo_immediate_93 : decode b_Mo_immediate 93 = .ok (.goto 7, 3) := by decide +kernel
theorem d_Mo_immediate_96 : decode b_Mo_immediate 96 = .ok (.iload 4, 2) := by decide +kernel
theorem d_Mo_immediate_98 : decode b_Mo_immediate 98 = .ok (.iload_n 3, 1) := by decide +kernel
theorem d_Mo_immediate_99 : decode b_Mo_immediate 99 = .ok (.ior, 1) := by decide +kernel
theorem d_Mo_immediate_100 : decode b_Mo_immediate 100 = .ok (.istore 5, 2) := by decide +kernel
theorem d_Mo_immediate_102 : decode b_Mo_immediate 102 = .ok (.aload_n 0, 1) := by decide +kernel
theorem d_Mo_immediate_103 : decode b_Mo_immediate 103 = .ok (.iload 5, 2) := by decide +kernel
theorem d_Mo_immediate_105 : decode b_Mo_immediate 105 = .ok (.invokevirtual 82, 3) := by decide +kernel
theorem d_Mo_immediate_108 : decode b_Mo_immediate 108 = .ok (.aload_n 0, 1) := by decide +kernel
theorem d_Mo_immediate_109 : decode b_Mo_immediate 109 = .ok (.iload_n 2, 1) := by decide +kernel
theorem d_Mo_immediate_110 : decode b_Mo_immediate 110 = .ok (.iload 5, 2) := by decide +kernel
theorem d_Mo_immediate_112 : decode b_Mo_immediate 112 = .ok (.invokevirtual 53, 3) := by decide +kernel
theorem d_Mo_immediate_115 : decode b_Mo_immediate 115 = .ok (.return_, 1) := by decide +kernel
theorem d_Mo_inner_0 : decode b_Mo_inner 0 = .ok (.iload_n 1, 1) := by decide +kernel
theorem d_Mo_inner_1 : decode b_Mo_inner 1 = .ok (.iconst 5, 1) := by decide +kernel
theorem d_Mo_inner_2 : decode b_Mo_inner 2 = .ok (.ishr, 1) := by decide +kernel
theorem d_Mo_inner_3 : decode b_Mo_inner 3 = .ok (.bipush 15, 2) := by decide +kernel
theorem d_Mo_inner_5 : decode b_Mo_inner 5 = .ok (.iand, 1) := by decide +kernel
theorem d_Mo_inner_6 : decode b_Mo_inner 6 = .ok (.istore_n 2, 1) := by decide +kernel
theorem d_Mo_inner_7 : decode b_Mo_inner 7 = .ok (.iload_n 2, 1) := by decide +kernel
theorem d_Mo_inner_8 : decode b_Mo_inner 8 = .ok (.iconst 5, 1) := by decide +kernel
theorem d_Mo_inner_9 : decode b_Mo_inner 9 = .ok (.if_icmp .lt 15, 3) := by decide +kernel
theorem d_Mo_inner_12 : decode b_Mo_inner 12 = .ok (.iload_n 2, 1) := by decide +kernel
theorem d_Mo_inner_13 : decode b_Mo_inner 13 = .ok (.bipush 7, 2) := by decide +kernel
theorem d_Mo_inner_15 : decode b_Mo_inner 15 = .ok (.if_icmp .eq 9, 3) := by decide +kernel
theorem d_Mo_inner_18 : decode b_Mo_inner 18 = .ok (.iload_n 2, 1) := by decide +kernel
theorem d_Mo_inner_19 : decode b_Mo_inner 19 = .ok (.bipush 8, 2) := by decide +kernel
theorem d_Mo_inner_21 : decode b_Mo_inner 21 = .ok (.if_icmp .ne 12, 3) := by decide +kernel
theorem d_Mo_inner_24 : decode b_Mo_inner 24 = .ok (.aload_n 0, 1) := by decide +kernel
theorem d_Mo_inner_25 : decode b_Mo_inner 25 = .ok (.iload_n 2, 1) := by decide +kernel
theorem d_Mo_inner_26 : decode b_Mo_inner 26 = .ok (.iload_n 1, 1) := by decide +kernel
theorem d_Mo_inner_27 : decode b_Mo_inner 27 = .ok (.bipush 15, 2) := by decide +kernel
theorem d_Mo_inner_29 : decode b_Mo_inner 29 = .ok (.iand, 1) := by decide +kernel
theorem d_Mo_inner_30 : decode b_Mo_inner 30 = .ok (.invokevirtual 117, 3) := by decide +kernel
theorem d_Mo_inner_33 : decode b_Mo_inner 33 = .ok (.iload_n 2, 1) := by decide +kernel
theorem d_Mo_inner_34 : decode b_Mo_inner 34 = .ok (.iconst 5, 1) := by decide +kernel
theorem d_Mo_inner_35 : decode b_Mo_inner 35 = .ok (.if_icmp .ne 15, 3) := by decide +kernel
theorem d_Mo_inner_38 : decode b_Mo_inner 38 = .ok (.aload_n 0, 1) := by decide +kernel
theorem d_Mo_inner_39 : decode b_Mo_inner 39 = .ok (.iload_n 1, 1) := by decide +kernel
theorem d_Mo_inner_40 : decode b_Mo_inner 40 = .ok (.bipush 15, 2) := by decide +kernel
theorem d_Mo_inner_42 : decode b_Mo_inner 42 = .ok (.iand, 1) := by decide +kernel
theorem d_Mo_inner_43 : decode b_Mo_inner 43 = .ok (.aload_n 0, 1) := by decide +kernel
theorem d_Mo_inner_44 : decode b_Mo_inner 44 = .ok (.getfield 25, 3) := by decide +kernel
theorem d_Mo_inner_47 : decode b_Mo_inner 47 = .ok (.invokevirtual 53, 3) := by decide +kernel
theorem d_Mo_inner_50 : decode b_Mo_inner 50 = .ok (.iload_n 2, 1) := by decide +kernel
theorem d_Mo_inner_51 : decode b_Mo_inner 51 = .ok (.bipush 6, 2) := by decide +kernel
theorem d_Mo_inner_53 : decode b_Mo_inner 53 = .ok (.if_icmp .ne 15, 3) := by decide +kernel
theorem d_Mo_inner_56 : decode b_Mo_inner 56 = .ok (.aload_n 0, 1) := by decide +kernel
theorem d_Mo_inner_57 : decode b_Mo_inner 57 = .ok (.iload_n 1, 1) := by decide +kernel
theorem d_Mo_inner_58 : decode b_Mo_inner 58 = .ok (.bipush 15, 2) := by decide +kernel
theorem d_Mo_inner_60 : decode b_Mo_inner 60 = .ok (.iand, 1) := by decide +kernel
theorem d_Mo_inner_61 : decode b_Mo_inner 61 = .ok (.aload_n 0, 1) := by decide +kernel
theorem d_Mo_inner_62 : decode b_Mo_inner 62 = .ok (.getfield 56, 3) := by decide +kernel
theorem d_Mo_inner_65 : decode b_Mo_inner 65 = .ok (.invokevirtual 53, 3) := by decide +kernel
theorem d_Mo_inner_68 : decode b_Mo_inner 68 = .ok (.iload_n 2, 1) := by decide +kernel
theorem d_Mo_inner_69 : decode b_Mo_inner 69 = .ok (.bipush 10, 2) := by decide +kernel
theorem d_Mo_inner_71 : decode b_Mo_inner 71 = .ok (.if_icmp .ne 8, 3) := by decide +kernel
theorem d_Mo_inner_74 : decode b_Mo_inner 74 = .ok (.aload_n 0, 1) := by decide +kernel
theorem d_Mo_inner_75 : decode b_Mo_inner 75 = .ok (.iconst 1, 1) := by decide +kernel
theorem d_Mo_inner_76 : decode b_Mo_inner 76 = .ok (.putfield 120, 3) := by decide +kernel
theorem d_Mo_inner_79 : decode b_Mo_inner 79 = .ok (.iload_n 2, 1) := by decide +kernel
theorem d_Mo_inner_80 : decode b_Mo_inner 80 = .ok (.bipush 11, 2) := by decide +kernel
theorem d_Mo_inner_82 : decode b_Mo_inner 82 = .ok (.if_icmp .ne 8, 3) := by decide +kernel
theorem d_Mo_inner_85 : decode b_Mo_inner 85 = .ok (.aload_n 0, 1) := by decide +kernel
theorem d_Mo_inner_86 : decode b_Mo_inner 86 = .ok (.iconst 0, 1) := by decide +kernel
theorem d_Mo_inner_87 : decode b_Mo_inner 87 = .ok (.invokevirtual 114, 3) := by decide +kernel
theorem d_Mo_inner_90 : decode b_Mo_inner 90 = .ok (.iload_n 2, 1) := by decide +kernel
theorem d_Mo_inner_91 : decode b_Mo_inner 91 = .ok (.bipush 12, 2) := by decide +kernel
theorem d_Mo_inner_93 : decode b_Mo_inner 93 = .ok (.if_icmp .ne 43, 3) := by decide +kernel
theorem d_Mo_inner_96 : decode b_Mo_inner 96 = .ok (.aload_n 0, 1) := by decide +kernel
theorem d_Mo_inner_97 : decode b_Mo_inner 97 = .ok (.bipush 13, 2) := by decide +kernel
theorem d_Mo_inner_99 : decode b_Mo_inner 99 = .ok (.invokevirtual 40, 3) := by decide +kernel
theorem d_Mo_inner_102 : decode b_Mo_inner 102 = .ok (.istore_n 3, 1) := by decide +kernel
theorem d_Mo_inner_103 : decode b_Mo_inner 103 = .ok (.aload_n 0, 1) := by decide +kernel
theorem d_Mo_inner_104 : decode b_Mo_inner 104 = .ok (.aload_n 0, 1) := by decide +kernel
theorem d_Mo_inner_105 : decode b_Mo_inner 105 = .ok (.bipush 14, 2) := by decide +kernel
theorem d_Mo_inner_107 : decode b_Mo_inner 107 = .ok (.invokevirtual 40, 3) := by decide +kernel
theorem d_Mo_inner_110 : decode b_Mo_inner 110 = .ok (.sipush 1022, 3) := by decide +kernel
theorem d_Mo_inner_113 : decode b_Mo_inner 113 = .ok (.iand, 1) := by decide +kernel
theorem d_Mo_inner_114 : decode b_Mo_inner 114 = .ok (.putfield 36, 3) := by decide +kernel
theorem d_Mo_inner_117 : decode b_Mo_inner 117 = .ok (.aload_n 0, 1) := by decide +kernel
theorem d_Mo_inner_118 : decode b_Mo_inner 118 = .ok (.aload_n 0, 1) := by decide +kernel
theorem d_Mo_inner_119 : decode b_Mo_inner 119 = .ok (.bipush 15, 2) := by decide +kernel
theorem d_Mo_inner_121 : decode b_Mo_inner 121 = .ok (.invokevirtual 40, 3) := by decide +kernel
theorem d_Mo_inner_124 : decode b_Mo_inner 124 = .ok (.putfield 56, 3) := by decide +kernel
theorem d_Mo_inner_127 : decode b_Mo_inner 127 = .ok (.aload_n 0, 1) := by decide +kernel
theorem d_Mo_inner_128 : decode b_Mo_inner 128 = .ok (.iload_n 3, 1) := by decide +kernel
theorem d_Mo_inner_129 : decode b_Mo_inner 129 = .ok (.sipush 1022, 3) := by decide +kernel
theorem d_Mo_inner_132 : decode b_Mo_inner 132 = .ok (.iand, 1) := by decide +kernel
theorem d_Mo_inner_133 : decode b_Mo_inner 133 = .ok (.putfield 25, 3) := by decide +kernel
theorem d_Mo_inner_136 : decode b_Mo_inner 136 = .ok (.iload_n 2, 1) := by decide +kernel
theorem d_Mo_inner_137 : decode b_Mo_inner 137 = .ok (.bipush 10, 2) := by decide +kernel
theorem d_Mo_inner_139 : decode b_Mo_inner 139 = .ok (.if_icmp .ne 7, 3) := by decide +kernel
theorem d_Mo_inner_142 : decode b_Mo_inner 142 = .ok (.iconst 1, 1) := by decide +kernel
theorem d_Mo_inner_143 : decode b_Mo_inner 143 = .ok (.goto 4, 3) := by decide +kernel
theorem d_Mo_inner_146 : decode b_Mo_inner 146 = .ok (.iconst 0, 1) := by decide +kernel
theorem d_Mo_inner_147 : decode b_Mo_inner 147 = .ok (.ireturn, 1) := by decide +kernel
theorem d_Mo_does_0 : decode b_Mo_does 0 = .ok (.iload_n 1, 1) := by decide +kernel
theorem d_Mo_does_1 : decode b_Mo_does 1 = .ok (.sipush 16384, 3) := by decide +kernel
theorem d_Mo_does_4 : decode b_Mo_does 4 = .ok (.if_icmp .lt 11, 3) := by decide +kernel
theorem d_Mo_does_7 : decode b_Mo_does 7 = .ok (.aload_n 0, 1) := by decide +kernel
theorem d_Mo_does_8 : decode b_Mo_does 8 = .ok (.iload_n 1, 1) := by decide +kernel
theorem d_Mo_does_9 : decode b_Mo_does 9 = .ok (.invokevirtual 124, 3) := by decide +kernel
theorem d_Mo_does_12 : decode b_Mo_does 12 = .ok (.goto 69, 3) := by decide +kernel
theorem d_Mo_does_15 : decode b_Mo_does 15 = .ok (.iload_n 1, 1) := by decide +kernel
theorem d_Mo_does_16 : decode b_Mo_does 16 = .ok (.sipush 8192, 3) := by decide +kernel
theorem d_Mo_does_19 : decode b_Mo_does 19 = .ok (.if_icmp .lt 11, 3) := by decide +kernel
theorem d_Mo_does_22 : decode b_Mo_does 22 = .ok (.aload_n 0, 1) := by decide +kernel
theorem d_Mo_does_23 : decode b_Mo_does 23 = .ok (.iload_n 1, 1) := by decide +kernel
theorem d_Mo_does_24 : decode b_Mo_does 24 = .ok (.invokevirtual 127, 3) := by decide +kernel
theorem d_Mo_does_27 : decode b_Mo_does 27 = .ok (.goto 54, 3) := by decide +kernel
theorem d_Mo_does_30 : decode b_Mo_does 30 = .ok (.iload_n 1, 1) := by decide +kernel
theorem d_Mo_does_31 : decode b_Mo_does 31 = .ok (.sipush 4096, 3) := by decide +kernel
theorem d_Mo_does_34 : decode b_Mo_does 34 = .ok (.if_icmp .lt 11, 3) := by decide +kernel
theorem d_Mo_does_37 : decode b_Mo_does 37 = .ok (.aload_n 0, 1) := by decide +kernel
theorem d_Mo_does_38 : decode b_Mo_does 38 = .ok (.iload_n 1, 1) := by decide +kernel
theorem d_Mo_does_39 : decode b_Mo_does 39 = .ok (.invokevirtual 130, 3) := by decide +kernel
theorem d_Mo_does_42 : decode b_Mo_does 42 = .ok (.goto 39, 3) := by decide +kernel
theorem d_Mo_does_45 : decode b_Mo_does 45 = .ok (.iload_n 1, 1) := by decide +kernel
theorem d_Mo_does_46 : decode b_Mo_does 46 = .ok (.sipush 2048, 3) := by decide +kernel
theorem d_Mo_does_49 : decode b_Mo_does 49 = .ok (.if_icmp .lt 11, 3) := by decide +kernel
theorem d_Mo_does_52 : decode b_Mo_does 52 = .ok (.aload_n 0, 1) := by decide +kernel
theorem d_Mo_does_53 : decode b_Mo_does 53 = .ok (.iload_n 1, 1) := by decide +kernel
theorem d_Mo_does_54 : decode b_Mo_does 54 = .ok (.invokevirtual 133, 3) := by decide +kernel
theorem d_Mo_does_57 : decode b_Mo_does 57 = .ok (.goto 24, 3) := by decide +kernel
theorem d_Mo_does_60 : decode b_Mo_does 60 = .ok (.iload_n 1, 1) := by decide +kernel
theorem d_Mo_does_61 : decode b_Mo_does 61 = .ok (.sipush 1024, 3) := by decide +kernel
theorem d_Mo_does_64 : decode b_Mo_does 64 = .ok (.if_icmp .lt 11, 3) := by decide +kernel
theorem d_Mo_does_67 : decode b_Mo_does 67 = .ok (.aload_n 0, 1) := by decide +kernel
theorem d_Mo_does_68 : decode b_Mo_does 68 = .ok (.iload_n 1, 1) := by decide +kernel
theorem d_Mo_does_69 : decode b_Mo_does 69 = .ok (.invokevirtual 136, 3) := by decide +kernel
theorem d_Mo_does_72 : decode b_Mo_does 72 = .ok (.goto 9, 3) := by decide +kernel
theorem d_Mo_does_75 : decode b_Mo_does 75 = .ok (.aload_n 0, 1) := by decide +kernel
theorem d_Mo_does_76 : decode b_Mo_does 76 = .ok (.iload_n 1, 1) := by decide +kernel
theorem d_Mo_does_77 : decode b_Mo_does 77 = .ok (.invokevirtual 139, 3) := by decide +kernel
theorem d_Mo_does_80 : decode b_Mo_does 80 = .ok (.ireturn, 1) := by decide +kernel
theorem d_Mo_does_81 : decode b_Mo_does 81 = .ok (.iconst 0, 1) := by decide +kernel
theorem d_Mo_does_82 : decode b_Mo_does 82 = .ok (.ireturn, 1) := by decide +kernel
theorem d_Mo_fetched_0 : decode b_Mo_fetched 0 = .ok (.aload_n 0, 1) := by decide +kernel
theorem d_Mo_fetched_1 : decode b_Mo_fetched 1 = .ok (.getfield 36, 3) := by decide +kernel
theorem d_Mo_fetched_4 : decode b_Mo_fetched 4 = .ok (.istore_n 1, 1) := by decide +kernel
theorem d_Mo_fetched_5 : decode b_Mo_fetched 5 = .ok (.aload_n 0, 1) := by decide +kernel
theorem d_Mo_fetched_6 : decode b_Mo_fetched 6 = .ok (.invokevirtual 43, 3) := by decide +kernel
theorem d_Mo_fetched_9 : decode b_Mo_fetched 9 = .ok (.istore_n 2, 1) := by decide +kernel
theorem d_Mo_fetched_10 : decode b_Mo_fetched 10 = .ok (.aload_n 0, 1) := by decide +kernel
theorem d_Mo_fetched_11 : decode b_Mo_fetched 11 = .ok (.iconst (-1), 1) := by decide +kernel
theorem d_Mo_fetched_12 : decode b_Mo_fetched 12 = .ok (.putfield 47, 3) := by decide +kernel
theorem d_Mo_fetched_15 : decode b_Mo_fetched 15 = .ok (.iload_n 2, 1) := by decide +kernel
theorem d_Mo_fetched_16 : decode b_Mo_fetched 16 = .ok (.invokestatic 142, 3) := by decide +kernel
theorem d_Mo_fetched_19 : decode b_Mo_fetched 19 = .ok (.ifCond .eq 7, 3) := by decide +kernel
theorem d_Mo_fetched_22 : decode b_Mo_fetched 22 = .ok (.iconst 0, 1) := by decide +kernel
theorem d_Mo_fetched_23 : decode b_Mo_fetched 23 = .ok (.goto 4, 3) := by decide +kernel
theorem d_Mo_fetched_26 : decode b_Mo_fetched 26 = .ok (.iconst 2, 1) := by decide +kernel
theorem d_Mo_fetched_27 : decode b_Mo_fetched 27 = .ok (.istore_n 3, 1) := by decide +kernel
theorem d_Mo_fetched_28 : decode b_Mo_fetched 28 = .ok (.iload_n 3, 1) := by decide +kernel
theorem d_Mo_fetched_29 : decode b_Mo_fetched 29 = .ok (.ifCond .ne 48, 3) := by decide +kernel
theorem d_Mo_fetched_32 : decode b_Mo_fetched 32 = .ok (.iload_n 2, 1) := by decide +kernel
theorem d_Mo_fetched_33 : decode b_Mo_fetched 33 = .ok (.invokestatic 145, 3) := by decide +kernel
theorem d_Mo_fetched_36 : decode b_Mo_fetched 36 = .ok (.ifCond .eq 41, 3) := by decide +kernel
theorem d_Mo_fetched_39 : decode b_Mo_fetched 39 = .ok (.aload_n 0, 1) := by decide +kernel
theorem d_Mo_fetched_40 : decode b_Mo_fetched 40 = .ok (.aload_n 0, 1) := by decide +kernel
theorem d_Mo_fetched_41 : decode b_Mo_fetched 41 = .ok (.iload_n 2, 1) := by decide +kernel
theorem d_Mo_fetched_42 : decode b_Mo_fetched 42 = .ok (.bipush 63, 2) := by decide +kernel
theorem d_Mo_fetched_44 : decode b_Mo_fetched 44 = .ok (.iand, 1) := by decide +kernel
theorem d_Mo_fetched_45 : decode b_Mo_fetched 45 = .ok (.iconst 0, 1) := by decide +kernel
theorem d_Mo_fetched_46 : decode b_Mo_fetched 46 = .ok (.invokevirtual 71, 3) := by decide +kernel
theorem d_Mo_fetched_49 : decode b_Mo_fetched 49 = .ok (.invokevirtual 28, 3) := by decide +kernel
theorem d_Mo_fetched_52 : decode b_Mo_fetched 52 = .ok (.istore_n 2, 1) := by decide +kernel
theorem d_Mo_fetched_53 : decode b_Mo_fetched 53 = .ok (.iload_n 2, 1) := by decide +kernel
theorem d_Mo_fetched_54 : decode b_Mo_fetched 54 = .ok (.invokestatic 142, 3) := by decide +kernel
theorem d_Mo_fetched_57 : decode b_Mo_fetched 57 = .ok (.ifCond .ne 7, 3) := by decide +kernel
theorem d_Mo_fetched_60 : decode b_Mo_fetched 60 = .ok (.iconst 2, 1) := by decide +kernel
theorem d_Mo_fetched_61 : decode b_Mo_fetched 61 = .ok (.goto 15, 3) := by decide +kernel
theorem d_Mo_fetched_64 : decode b_Mo_fetched 64 = .ok (.iload_n 2, 1) := by decide +kernel
theorem d_Mo_fetched_65 : decode b_Mo_fetched 65 = .ok (.invokestatic 145, 3) := by decide +kernel
theorem d_Mo_fetched_68 : decode b_Mo_fetched 68 = .ok (.ifCond .eq 7, 3) := by decide +kernel
theorem d_Mo_fetched_71 : decode b_Mo_fetched 71 = .ok (.iconst 3, 1) := by decide +kernel
theorem d_Mo_fetched_72 : decode b_Mo_fetched 72 = .ok (.goto 4, 3) := by decide +kernel
theorem d_Mo_fetched_75 : decode b_Mo_fetched 75 = .ok (.iconst 0, 1) := by decide +kernel
theorem d_Mo_fetched_76 : decode b_Mo_fetched 76 = .ok (.istore_n 3, 1) := by decide +kernel
theorem d_Mo_fetched_77 : decode b_Mo_fetched 77 = .ok (.iload_n 3, 1) := by decide +kernel
theorem d_Mo_fetched_78 : decode b_Mo_fetched 78 = .ok (.ifCond .ne 9, 3) := by decide +kernel
theorem d_Mo_fetched_81 : decode b_Mo_fetched 81 = .ok (.aload_n 0, 1) := by decide +kernel
theorem d_Mo_fetched_82 : decode b_Mo_fetched 82 = .ok (.iload_n 2, 1) := by decide +kernel
theorem d_Mo_fetched_83 : decode b_Mo_fetched 83 = .ok (.invokevirtual 148, 3) := by decide +kernel
theorem d_Mo_fetched_86 : decode b_Mo_fetched 86 = .ok (.ireturn, 1) := by decide +kernel
theorem d_Mo_fetched_87 : decode b_Mo_fetched 87 = .ok (.aload_n 0, 1) := by decide +kernel
theorem d_Mo_fetched_88 : decode b_Mo_fetched 88 = .ok (.iload_n 1, 1) := by decide +kernel
theorem d_Mo_fetched_89 : decode b_Mo_fetched 89 = .ok (.putfield 36, 3) := by decide +kernel
theorem d_Mo_fetched_92 : decode b_Mo_fetched 92 = .ok (.aload_n 0, 1) := by decide +kernel
theorem d_Mo_fetched_93 : decode b_Mo_fetched 93 = .ok (.getfield 47, 3) := by decide +kernel
theorem d_Mo_fetched_96 : decode b_Mo_fetched 96 = .ok (.ifCond .lt 15, 3) := by decide +kernel
theorem d_Mo_fetched_99 : decode b_Mo_fetched 99 = .ok (.aload_n 0, 1) := by decide +kernel
theorem d_Mo_fetched_100 : decode b_Mo_fetched 100 = .ok (.aload_n 0, 1) := by decide +kernel
theorem d_Mo_fetched_101 : decode b_Mo_fetched 101 = .ok (.getfield 47, 3) := by decide +kernel
theorem d_Mo_fetched_104 : decode b_Mo_fetched 104 = .ok (.aload_n 0, 1) := by decide +kernel
theorem d_Mo_fetched_105 : decode b_Mo_fetched 105 = .ok (.getfield 50, 3) := by decide +kernel
theorem d_Mo_fetched_108 : decode b_Mo_fetched 108 = .ok (.invokevirtual 32, 3) := by decide +kernel
theorem d_Mo_fetched_111 : decode b_Mo_fetched 111 = .ok (.iload_n 3, 1) := by decide +kernel
theorem d_Mo_fetched_112 : decode b_Mo_fetched 112 = .ok (.ireturn, 1) := by decide +kernel
theorem d_Mo_step_0 : decode b_Mo_step 0 = .ok (.aload_n 0, 1) := by decide +kernel
theorem d_Mo_step_1 : decode b_Mo_step 1 = .ok (.iconst 0, 1) := by decide +kernel
theorem d_Mo_step_2 : decode b_Mo_step 2 = .ok (.putfield 21, 3) := by decide +kernel
theorem d_Mo_step_5 : decode b_Mo_step 5 = .ok (.aload_n 0, 1) := by decide +kernel
theorem d_Mo_step_6 : decode b_Mo_step 6 = .ok (.getfield 17, 3) := by decide +kernel
theorem d_Mo_step_9 : decode b_Mo_step 9 = .ok (.aload_n 0, 1) := by decide +kernel
theorem d_Mo_step_10 : decode b_Mo_step 10 = .ok (.getfield 56, 3) := by decide +kernel
theorem d_Mo_step_13 : decode b_Mo_step 13 = .ok (.bipush 15, 2) := by decide +kernel
theorem d_Mo_step_15 : decode b_Mo_step 15 = .ok (.iand, 1) := by decide +kernel
theorem d_Mo_step_16 : decode b_Mo_step 16 = .ok (.if_icmp .gt 41, 3) := by decide +kernel
theorem d_Mo_step_19 : decode b_Mo_step 19 = .ok (.aload_n 0, 1) := by decide +kernel
theorem d_Mo_step_20 : decode b_Mo_step 20 = .ok (.iconst 4, 1) := by decide +kernel
theorem d_Mo_step_21 : decode b_Mo_step 21 = .ok (.aload_n 0, 1) := by decide +kernel
theorem d_Mo_step_22 : decode b_Mo_step 22 = .ok (.getfield 17, 3) := by decide +kernel
theorem d_Mo_step_25 : decode b_Mo_step 25 = .ok (.imul, 1) := by decide +kernel
theorem d_Mo_step_26 : decode b_Mo_step 26 = .ok (.invokevirtual 99, 3) := by decide +kernel
theorem d_Mo_step_29 : decode b_Mo_step 29 = .ok (.aload_n 0, 1) := by decide +kernel
theorem d_Mo_step_30 : decode b_Mo_step 30 = .ok (.aload_n 0, 1) := by decide +kernel
theorem d_Mo_step_31 : decode b_Mo_step 31 = .ok (.getfield 17, 3) := by decide +kernel
theorem d_Mo_step_34 : decode b_Mo_step 34 = .ok (.ifCond .ne 7, 3) := by decide +kernel
theorem d_Mo_step_37 : decode b_Mo_step 37 = .ok (.iconst 0, 1) := by decide +kernel
theorem d_Mo_step_38 : decode b_Mo_step 38 = .ok (.goto 9, 3) := by decide +kernel
theorem d_Mo_step_41 : decode b_Mo_step 41 = .ok (.aload_n 0, 1) := by decide +kernel
theorem d_Mo_step_42 : decode b_Mo_step 42 = .ok (.getfield 17, 3) := by decide +kernel
theorem d_Mo_step_45 : decode b_Mo_step 45 = .ok (.iconst 1, 1) := by decide +kernel
theorem d_Mo_step_46 : decode b_Mo_step 46 = .ok (.isub, 1) := by decide +kernel
theorem d_Mo_step_47 : decode b_Mo_step 47 = .ok (.invokevirtual 114, 3) := by decide +kernel
theorem d_Mo_step_50 : decode b_Mo_step 50 = .ok (.aload_n 0, 1) := by decide +kernel
theorem d_Mo_step_51 : decode b_Mo_step 51 = .ok (.iconst 0, 1) := by decide +kernel
theorem d_Mo_step_52 : decode b_Mo_step 52 = .ok (.putfield 120, 3) := by decide +kernel
theorem d_Mo_step_55 : decode b_Mo_step 55 = .ok (.iconst 0, 1) := by decide +kernel
theorem d_Mo_step_56 : decode b_Mo_step 56 = .ok (.ireturn, 1) := by decide +kernel
theorem d_Mo_step_57 : decode b_Mo_step 57 = .ok (.aload_n 0, 1) := by decide +kernel
theorem d_Mo_step_58 : decode b_Mo_step 58 = .ok (.getfield 120, 3) := by decide +kernel
theorem d_Mo_step_61 : decode b_Mo_step 61 = .ok (.ifCond .eq 7, 3) := by decide +kernel
theorem d_Mo_step_64 : decode b_Mo_step 64 = .ok (.iconst 1, 1) := by decide +kernel
theorem d_Mo_step_65 : decode b_Mo_step 65 = .ok (.goto 7, 3) := by decide +kernel
theorem d_Mo_step_68 : decode b_Mo_step 68 = .ok (.aload_n 0, 1) := by decide +kernel
theorem d_Mo_step_69 : decode b_Mo_step 69 = .ok (.invokevirtual 151, 3) := by decide +kernel
theorem d_Mo_step_72 : decode b_Mo_step 72 = .ok (.ireturn, 1) := by decide +kernel
theorem d_Mo_reset_0 : decode b_Mo_reset 0 = .ok (.aload_n 0, 1) := by decide +kernel
theorem d_Mo_reset_1 : decode b_Mo_reset 1 = .ok (.iconst 0, 1) := by decide +kernel
theorem d_Mo_reset_2 : decode b_Mo_reset 2 = .ok (.putfield 21, 3) := by decide +kernel
theorem d_Mo_reset_5 : decode b_Mo_reset 5 = .ok (.aload_n 0, 1) := by decide +kernel
theorem d_Mo_reset_6 : decode b_Mo_reset 6 = .ok (.iconst 0, 1) := by decide +kernel
theorem d_Mo_reset_7 : decode b_Mo_reset 7 = .ok (.invokevirtual 99, 3) := by decide +kernel
theorem d_Mo_reset_10 : decode b_Mo_reset 10 = .ok (.aload_n 0, 1) := by decide +kernel
theorem d_Mo_reset_11 : decode b_Mo_reset 11 = .ok (.iconst 0, 1) := by decide +kernel
theorem d_Mo_reset_12 : decode b_Mo_reset 12 = .ok (.invokevirtual 114, 3) := by decide +kernel
theorem d_Mo_reset_15 : decode b_Mo_reset 15 = .ok (.aload_n 0, 1) := by decide +kernel
theorem d_Mo_reset_16 : decode b_Mo_reset 16 = .ok (.iconst 0, 1) := by decide +kernel
theorem d_Mo_reset_17 : decode b_Mo_reset 17 = .ok (.putfield 120, 3) := by decide +kernel
theorem d_Mo_reset_20 : decode b_Mo_reset 20 = .ok (.return_, 1) := by decide +kernel
theorem d_Mo_isAddress_0 : decode b_Mo_isAddress 0 = .ok (.iload_n 0, 1) := by decide +kernel
theorem d_Mo_isAddress_1 : decode b_Mo_isAddress 1 = .ok (.ifCond .lt 20, 3) := by decide +kernel
theorem d_Mo_isAddress_4 : decode b_Mo_isAddress 4 = .ok (.iload_n 0, 1) := by decide +kernel
theorem d_Mo_isAddress_5 : decode b_Mo_isAddress 5 = .ok (.sipush 1022, 3) := by decide +kernel
theorem d_Mo_isAddress_8 : decode b_Mo_isAddress 8 = .ok (.if_icmp .gt 13, 3) := by decide +kernel
theorem d_Mo_isAddress_11 : decode b_Mo_isAddress 11 = .ok (.iload_n 0, 1) := by decide +kernel
theorem d_Mo_isAddress_12 : decode b_Mo_isAddress 12 = .ok (.iconst 1, 1) := by decide +kernel
theorem d_Mo_isAddress_13 : decode b_Mo_isAddress 13 = .ok (.iand, 1) := by decide +kernel
theorem d_Mo_isAddress_14 : decode b_Mo_isAddress 14 = .ok (.ifCond .ne 7, 3) := by decide +kernel
theorem d_Mo_isAddress_17 : decode b_Mo_isAddress 17 = .ok (.iconst 1, 1) := by decide +kernel
theorem d_Mo_isAddress_18 : decode b_Mo_isAddress 18 = .ok (.goto 4, 3) := by decide +kernel
theorem d_Mo_isAddress_21 : decode b_Mo_isAddress 21 = .ok (.iconst 0, 1) := by decide +kernel
theorem d_Mo_isAddress_22 : decode b_Mo_isAddress 22 = .ok (.ireturn, 1) := by decide +kernel
theorem d_Mo_poke_0 : decode b_Mo_poke 0 = .ok (.aload_n 0, 1) := by decide +kernel
theorem d_Mo_poke_1 : decode b_Mo_poke 1 = .ok (.iload_n 1, 1) := by decide +kernel
theorem d_Mo_poke_2 : decode b_Mo_poke 2 = .ok (.invokestatic 154, 3) := by decide +kernel
theorem d_Mo_poke_5 : decode b_Mo_poke 5 = .ok (.ifCond .ne 7, 3) := by decide +kernel
theorem d_Mo_poke_8 : decode b_Mo_poke 8 = .ok (.iconst 1, 1) := by decide +kernel
theorem d_Mo_poke_9 : decode b_Mo_poke 9 = .ok (.goto 4, 3) := by decide +kernel
theorem d_Mo_poke_12 : decode b_Mo_poke 12 = .ok (.iconst 0, 1) := by decide +kernel
theorem d_Mo_poke_13 : decode b_Mo_poke 13 = .ok (.invokevirtual 157, 3) := by decide +kernel
theorem d_Mo_poke_16 : decode b_Mo_poke 16 = .ok (.ifCond .ne 9, 3) := by decide +kernel
theorem d_Mo_poke_19 : decode b_Mo_poke 19 = .ok (.aload_n 0, 1) := by decide +kernel
theorem d_Mo_poke_20 : decode b_Mo_poke 20 = .ok (.iload_n 1, 1) := by decide +kernel
theorem d_Mo_poke_21 : decode b_Mo_poke 21 = .ok (.iload_n 2, 1) := by decide +kernel
theorem d_Mo_poke_22 : decode b_Mo_poke 22 = .ok (.invokevirtual 32, 3) := by decide +kernel
theorem d_Mo_poke_25 : decode b_Mo_poke 25 = .ok (.return_, 1) := by decide +kernel
theorem d_Mo_peek_0 : decode b_Mo_peek 0 = .ok (.aload_n 0, 1) := by decide +kernel
theorem d_Mo_peek_1 : decode b_Mo_peek 1 = .ok (.iload_n 1, 1) := by decide +kernel
theorem d_Mo_peek_2 : decode b_Mo_peek 2 = .ok (.invokestatic 154, 3) := by decide +kernel
theorem d_Mo_peek_5 : decode b_Mo_peek 5 = .ok (.ifCond .ne 7, 3) := by decide +kernel
theorem d_Mo_peek_8 : decode b_Mo_peek 8 = .ok (.iconst 1, 1) := by decide +kernel
theorem d_Mo_peek_9 : decode b_Mo_peek 9 = .ok (.goto 4, 3) := by decide +kernel
theorem d_Mo_peek_12 : decode b_Mo_peek 12 = .ok (.iconst 0, 1) := by decide +kernel
theorem d_Mo_peek_13 : decode b_Mo_peek 13 = .ok (.invokevirtual 157, 3) := by decide +kernel
theorem d_Mo_peek_16 : decode b_Mo_peek 16 = .ok (.ifCond .eq 7, 3) := by decide +kernel
theorem d_Mo_peek_19 : decode b_Mo_peek 19 = .ok (.iconst 0, 1) := by decide +kernel
theorem d_Mo_peek_20 : decode b_Mo_peek 20 = .ok (.goto 9, 3) := by decide +kernel
theorem d_Mo_peek_23 : decode b_Mo_peek 23 = .ok (.aload_n 0, 1) := by decide +kernel
theorem d_Mo_peek_24 : decode b_Mo_peek 24 = .ok (.iload_n 1, 1) := by decide +kernel
theorem d_Mo_peek_25 : decode b_Mo_peek 25 = .ok (.invokevirtual 28, 3) := by decide +kernel
theorem d_Mo_peek_28 : decode b_Mo_peek 28 = .ok (.i2c, 1) := by decide +kernel
theorem d_Mo_peek_29 : decode b_Mo_peek 29 = .ok (.ireturn, 1) := by decide +kernel
theorem d_Mo_level_0 : decode b_Mo_level 0 = .ok (.aload_n 0, 1) := by decide +kernel
theorem d_Mo_level_1 : decode b_Mo_level 1 = .ok (.iload_n 1, 1) := by decide +kernel
theorem d_Mo_level_2 : decode b_Mo_level 2 = .ok (.ifCond .lt 9, 3) := by decide +kernel
theorem d_Mo_level_5 : decode b_Mo_level 5 = .ok (.iload_n 1, 1) := by decide +kernel
theorem d_Mo_level_6 : decode b_Mo_level 6 = .ok (.bipush 16, 2) := by decide +kernel
theorem d_Mo_level_8 : decode b_Mo_level 8 = .ok (.if_icmp .le 7, 3) := by decide +kernel
theorem d_Mo_level_11 : decode b_Mo_level 11 = .ok (.iconst 1, 1) := by decide +kernel
theorem d_Mo_level_12 : decode b_Mo_level 12 = .ok (.goto 4, 3) := by decide +kernel
theorem d_Mo_level_15 : decode b_Mo_level 15 = .ok (.iconst 0, 1) := by decide +kernel
theorem d_Mo_level_16 : decode b_Mo_level 16 = .ok (.invokevirtual 157, 3) := by decide +kernel
theorem d_Mo_level_19 : decode b_Mo_level 19 = .ok (.ifCond .ne 8, 3) := by decide +kernel
theorem d_Mo_level_22 : decode b_Mo_level 22 = .ok (.aload_n 0, 1) := by decide +kernel
theorem d_Mo_level_23 : decode b_Mo_level 23 = .ok (.iload_n 1, 1) := by decide +kernel
theorem d_Mo_level_24 : decode b_Mo_level 24 = .ok (.putfield 17, 3) := by decide +kernel
theorem d_Mo_level_27 : decode b_Mo_level 27 = .ok (.return_, 1) := by decide +kernel
theorem d_Mo_wire_0 : decode b_Mo_wire 0 = .ok (.aload_n 0, 1) := by decide +kernel
theorem d_Mo_wire_1 : decode b_Mo_wire 1 = .ok (.iload_n 1, 1) := by decide +kernel
theorem d_Mo_wire_2 : decode b_Mo_wire 2 = .ok (.ifCond .lt 9, 3) := by decide +kernel
theorem d_Mo_wire_5 : decode b_Mo_wire 5 = .ok (.iload_n 1, 1) := by decide +kernel
theorem d_Mo_wire_6 : decode b_Mo_wire 6 = .ok (.bipush 63, 2) := by decide +kernel
theorem d_Mo_wire_8 : decode b_Mo_wire 8 = .ok (.if_icmp .le 7, 3) := by decide +kernel
theorem d_Mo_wire_11 : decode b_Mo_wire 11 = .ok (.iconst 1, 1) := by decide +kernel
theorem d_Mo_wire_12 : decode b_Mo_wire 12 = .ok (.goto 4, 3) := by decide +kernel
theorem d_Mo_wire_15 : decode b_Mo_wire 15 = .ok (.iconst 0, 1) := by decide +kernel
theorem d_Mo_wire_16 : decode b_Mo_wire 16 = .ok (.invokevirtual 157, 3) := by decide +kernel
theorem d_Mo_wire_19 : decode b_Mo_wire 19 = .ok (.ifCond .ne 10, 3) := by decide +kernel
theorem d_Mo_wire_22 : decode b_Mo_wire 22 = .ok (.aload_n 0, 1) := by decide +kernel
theorem d_Mo_wire_23 : decode b_Mo_wire 23 = .ok (.getfield 13, 3) := by decide +kernel
theorem d_Mo_wire_26 : decode b_Mo_wire 26 = .ok (.iload_n 1, 1) := by decide +kernel
theorem d_Mo_wire_27 : decode b_Mo_wire 27 = .ok (.iload_n 2, 1) := by decide +kernel
theorem d_Mo_wire_28 : decode b_Mo_wire 28 = .ok (.bastore, 1) := by decide +kernel
theorem d_Mo_wire_29 : decode b_Mo_wire 29 = .ok (.return_, 1) := by decide +kernel
theorem d_Mo_line_0 : decode b_Mo_line 0 = .ok (.aload_n 0, 1) := by decide +kernel
theorem d_Mo_line_1 : decode b_Mo_line 1 = .ok (.iload_n 1, 1) := by decide +kernel
theorem d_Mo_line_2 : decode b_Mo_line 2 = .ok (.ifCond .lt 9, 3) := by decide +kernel
theorem d_Mo_line_5 : decode b_Mo_line 5 = .ok (.iload_n 1, 1) := by decide +kernel
theorem d_Mo_line_6 : decode b_Mo_line 6 = .ok (.bipush 63, 2) := by decide +kernel
theorem d_Mo_line_8 : decode b_Mo_line 8 = .ok (.if_icmp .le 7, 3) := by decide +kernel
theorem d_Mo_line_11 : decode b_Mo_line 11 = .ok (.iconst 1, 1) := by decide +kernel
theorem d_Mo_line_12 : decode b_Mo_line 12 = .ok (.goto 4, 3) := by decide +kernel
theorem d_Mo_line_15 : decode b_Mo_line 15 = .ok (.iconst 0, 1) := by decide +kernel
theorem d_Mo_line_16 : decode b_Mo_line 16 = .ok (.invokevirtual 157, 3) := by decide +kernel
theorem d_Mo_line_19 : decode b_Mo_line 19 = .ok (.ifCond .ne 16, 3) := by decide +kernel
theorem d_Mo_line_22 : decode b_Mo_line 22 = .ok (.aload_n 0, 1) := by decide +kernel
theorem d_Mo_line_23 : decode b_Mo_line 23 = .ok (.getfield 13, 3) := by decide +kernel
theorem d_Mo_line_26 : decode b_Mo_line 26 = .ok (.iload_n 1, 1) := by decide +kernel
theorem d_Mo_line_27 : decode b_Mo_line 27 = .ok (.baload, 1) := by decide +kernel
theorem d_Mo_line_28 : decode b_Mo_line 28 = .ok (.ifCond .eq 7, 3) := by decide +kernel
theorem d_Mo_line_31 : decode b_Mo_line 31 = .ok (.iconst 1, 1) := by decide +kernel
theorem d_Mo_line_32 : decode b_Mo_line 32 = .ok (.goto 4, 3) := by decide +kernel
theorem d_Mo_line_35 : decode b_Mo_line 35 = .ok (.iconst 0, 1) := by decide +kernel
theorem d_Mo_line_36 : decode b_Mo_line 36 = .ok (.ireturn, 1) := by decide +kernel
theorem d_Mo_state_0 : decode b_Mo_state 0 = .ok (.aload_n 0, 1) := by decide +kernel
theorem d_Mo_state_1 : decode b_Mo_state 1 = .ok (.iload_n 1, 1) := by decide +kernel
theorem d_Mo_state_2 : decode b_Mo_state 2 = .ok (.ifCond .lt 8, 3) := by decide +kernel
theorem d_Mo_state_5 : decode b_Mo_state 5 = .ok (.iload_n 1, 1) := by decide +kernel
theorem d_Mo_state_6 : decode b_Mo_state 6 = .ok (.iconst 4, 1) := by decide +kernel
theorem d_Mo_state_7 : decode b_Mo_state 7 = .ok (.if_icmp .le 7, 3) := by decide +kernel
theorem d_Mo_state_10 : decode b_Mo_state 10 = .ok (.iconst 1, 1) := by decide +kernel
theorem d_Mo_state_11 : decode b_Mo_state 11 = .ok (.goto 4, 3) := by decide +kernel
theorem d_Mo_state_14 : decode b_Mo_state 14 = .ok (.iconst 0, 1) := by decide +kernel
theorem d_Mo_state_15 : decode b_Mo_state 15 = .ok (.invokevirtual 157, 3) := by decide +kernel
theorem d_Mo_state_18 : decode b_Mo_state 18 = .ok (.istore_n 2, 1) := by decide +kernel
theorem d_Mo_state_19 : decode b_Mo_state 19 = .ok (.iload_n 2, 1) := by decide +kernel
theorem d_Mo_state_20 : decode b_Mo_state 20 = .ok (.ifCond .eq 7, 3) := by decide +kernel
theorem d_Mo_state_23 : decode b_Mo_state 23 = .ok (.iconst 0, 1) := by decide +kernel
theorem d_Mo_state_24 : decode b_Mo_state 24 = .ok (.goto 62, 3) := by decide +kernel
theorem d_Mo_state_27 : decode b_Mo_state 27 = .ok (.iload_n 1, 1) := by decide +kernel
theorem d_Mo_state_28 : decode b_Mo_state 28 = .ok (.ifCond .ne 10, 3) := by decide +kernel
theorem d_Mo_state_31 : decode b_Mo_state 31 = .ok (.aload_n 0, 1) := by decide +kernel
theorem d_Mo_state_32 : decode b_Mo_state 32 = .ok (.getfield 25, 3) := by decide +kernel
theorem d_Mo_state_35 : decode b_Mo_state 35 = .ok (.goto 51, 3) := by decide +kernel
theorem d_Mo_state_38 : decode b_Mo_state 38 = .ok (.iload_n 1, 1) := by decide +kernel
theorem d_Mo_state_39 : decode b_Mo_state 39 = .ok (.iconst 1, 1) := by decide +kernel
theorem d_Mo_state_40 : decode b_Mo_state 40 = .ok (.if_icmp .ne 10, 3) := by decide +kernel
theorem d_Mo_state_43 : decode b_Mo_state 43 = .ok (.aload_n 0, 1) := by decide +kernel
theorem d_Mo_state_44 : decode b_Mo_state 44 = .ok (.getfield 36, 3) := by decide +kernel
theorem d_Mo_state_47 : decode b_Mo_state 47 = .ok (.goto 39, 3) := by decide +kernel
theorem d_Mo_state_50 : decode b_Mo_state 50 = .ok (.iload_n 1, 1) := by decide +kernel
theorem d_Mo_state_51 : decode b_Mo_state 51 = .ok (.iconst 2, 1) := by decide +kernel
theorem d_Mo_state_52 : decode b_Mo_state 52 = .ok (.if_icmp .ne 10, 3) := by decide +kernel
theorem d_Mo_state_55 : decode b_Mo_state 55 = .ok (.aload_n 0, 1) := by decide +kernel
theorem d_Mo_state_56 : decode b_Mo_state 56 = .ok (.getfield 56, 3) := by decide +kernel
theorem d_Mo_state_59 : decode b_Mo_state 59 = .ok (.goto 27, 3) := by decide +kernel
theorem d_Mo_state_62 : decode b_Mo_state 62 = .ok (.iload_n 1, 1) := by decide +kernel
theorem d_Mo_state_63 : decode b_Mo_state 63 = .ok (.iconst 3, 1) := by decide +kernel
theorem d_Mo_state_64 : decode b_Mo_state 64 = .ok (.if_icmp .ne 10, 3) := by decide +kernel
theorem d_Mo_state_67 : decode b_Mo_state 67 = .ok (.aload_n 0, 1) := by decide +kernel
theorem d_Mo_state_68 : decode b_Mo_state 68 = .ok (.getfield 17, 3) := by decide +kernel
theorem d_Mo_state_71 : decode b_Mo_state 71 = .ok (.goto 15, 3) := by decide +kernel
theorem d_Mo_state_74 : decode b_Mo_state 74 = .ok (.aload_n 0, 1) := by decide +kernel
theorem d_Mo_state_75 : decode b_Mo_state 75 = .ok (.getfield 120, 3) := by decide +kernel
theorem d_Mo_state_78 : decode b_Mo_state 78 = .ok (.ifCond .eq 7, 3) := by decide +kernel
theorem d_Mo_state_81 : decode b_Mo_state 81 = .ok (.iconst 1, 1) := by decide +kernel
theorem d_Mo_state_82 : decode b_Mo_state 82 = .ok (.goto 4, 3) := by decide +kernel
theorem d_Mo_state_85 : decode b_Mo_state 85 = .ok (.iconst 0, 1) := by decide +kernel
theorem d_Mo_state_86 : decode b_Mo_state 86 = .ok (.ireturn, 1) := by decide +kernel
