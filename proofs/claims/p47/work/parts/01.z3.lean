theorem dL_cell_0 : decode cL_cell 0 = .ok (.iload_n 1, 1) := by decide +kernel
theorem dL_cell_1 : decode cL_cell 1 = .ok (.aload_n 0, 1) := by decide +kernel
theorem dL_cell_2 : decode cL_cell 2 = .ok (.arraylength, 1) := by decide +kernel
theorem dL_cell_3 : decode cL_cell 3 = .ok (.if_icmp .ge 9, 3) := by decide +kernel
theorem dL_cell_6 : decode cL_cell 6 = .ok (.aload_n 0, 1) := by decide +kernel
theorem dL_cell_7 : decode cL_cell 7 = .ok (.iload_n 1, 1) := by decide +kernel
theorem dL_cell_8 : decode cL_cell 8 = .ok (.iaload, 1) := by decide +kernel
theorem dL_cell_9 : decode cL_cell 9 = .ok (.goto 11, 3) := by decide +kernel
theorem dL_cell_12 : decode cL_cell 12 = .ok (.ldc 7, 2) := by decide +kernel
theorem dL_cell_14 : decode cL_cell 14 = .ok (.iload_n 1, 1) := by decide +kernel
theorem dL_cell_15 : decode cL_cell 15 = .ok (.imul, 1) := by decide +kernel
theorem dL_cell_16 : decode cL_cell 16 = .ok (.sipush 787, 3) := by decide +kernel
theorem dL_cell_19 : decode cL_cell 19 = .ok (.iadd, 1) := by decide +kernel
theorem dL_cell_20 : decode cL_cell 20 = .ok (.ldc 8, 2) := by decide +kernel
theorem dL_cell_22 : decode cL_cell 22 = .ok (.iand, 1) := by decide +kernel
theorem dL_cell_23 : decode cL_cell 23 = .ok (.ireturn, 1) := by decide +kernel
theorem dL_sound_0 : decode cL_sound 0 = .ok (.aload_n 0, 1) := by decide +kernel
theorem dL_sound_1 : decode cL_sound 1 = .ok (.invokevirtual 9, 3) := by decide +kernel
theorem dL_sound_4 : decode cL_sound 4 = .ok (.sipush (-1004), 3) := by decide +kernel
theorem dL_sound_7 : decode cL_sound 7 = .ok (.if_icmp .ne 9, 3) := by decide +kernel
theorem dL_sound_10 : decode cL_sound 10 = .ok (.sipush 1000, 3) := by decide +kernel
theorem dL_sound_13 : decode cL_sound 13 = .ok (.goto 7, 3) := by decide +kernel
theorem dL_sound_16 : decode cL_sound 16 = .ok (.aload_n 0, 1) := by decide +kernel
theorem dL_sound_17 : decode cL_sound 17 = .ok (.invokevirtual 9, 3) := by decide +kernel
theorem dL_sound_20 : decode cL_sound 20 = .ok (.istore_n 2, 1) := by decide +kernel
theorem dL_sound_21 : decode cL_sound 21 = .ok (.aload_n 0, 1) := by decide +kernel
theorem dL_sound_22 : decode cL_sound 22 = .ok (.iconst 1, 1) := by decide +kernel
theorem dL_sound_23 : decode cL_sound 23 = .ok (.invokevirtual 15, 3) := by decide +kernel
theorem dL_sound_26 : decode cL_sound 26 = .ok (.aload_n 0, 1) := by decide +kernel
theorem dL_sound_27 : decode cL_sound 27 = .ok (.iconst 2, 1) := by decide +kernel
theorem dL_sound_28 : decode cL_sound 28 = .ok (.invokevirtual 15, 3) := by decide +kernel
theorem dL_sound_31 : decode cL_sound 31 = .ok (.iadd, 1) := by decide +kernel
theorem dL_sound_32 : decode cL_sound 32 = .ok (.aload_n 0, 1) := by decide +kernel
theorem dL_sound_33 : decode cL_sound 33 = .ok (.iconst 3, 1) := by decide +kernel
theorem dL_sound_34 : decode cL_sound 34 = .ok (.invokevirtual 15, 3) := by decide +kernel
theorem dL_sound_37 : decode cL_sound 37 = .ok (.iadd, 1) := by decide +kernel
theorem dL_sound_38 : decode cL_sound 38 = .ok (.iload_n 2, 1) := by decide +kernel
theorem dL_sound_39 : decode cL_sound 39 = .ok (.if_icmp .ne 49, 3) := by decide +kernel
theorem dL_sound_42 : decode cL_sound 42 = .ok (.aload_n 0, 1) := by decide +kernel
theorem dL_sound_43 : decode cL_sound 43 = .ok (.invokevirtual 19, 3) := by decide +kernel
theorem dL_sound_46 : decode cL_sound 46 = .ok (.ifCond .lt 42, 3) := by decide +kernel
theorem dL_sound_49 : decode cL_sound 49 = .ok (.aload_n 0, 1) := by decide +kernel
theorem dL_sound_50 : decode cL_sound 50 = .ok (.invokevirtual 19, 3) := by decide +kernel
theorem dL_sound_53 : decode cL_sound 53 = .ok (.iload_n 1, 1) := by decide +kernel
theorem dL_sound_54 : decode cL_sound 54 = .ok (.iload_n 1, 1) := by decide +kernel
theorem dL_sound_55 : decode cL_sound 55 = .ok (.iconst 2, 1) := by decide +kernel
theorem dL_sound_56 : decode cL_sound 56 = .ok (.idiv, 1) := by decide +kernel
theorem dL_sound_57 : decode cL_sound 57 = .ok (.iadd, 1) := by decide +kernel
theorem dL_sound_58 : decode cL_sound 58 = .ok (.if_icmp .gt 30, 3) := by decide +kernel
theorem dL_sound_61 : decode cL_sound 61 = .ok (.aload_n 0, 1) := by decide +kernel
theorem dL_sound_62 : decode cL_sound 62 = .ok (.invokevirtual 22, 3) := by decide +kernel
theorem dL_sound_65 : decode cL_sound 65 = .ok (.aload_n 0, 1) := by decide +kernel
theorem dL_sound_66 : decode cL_sound 66 = .ok (.invokevirtual 25, 3) := by decide +kernel
theorem dL_sound_69 : decode cL_sound 69 = .ok (.iadd, 1) := by decide +kernel
theorem dL_sound_70 : decode cL_sound 70 = .ok (.aload_n 0, 1) := by decide +kernel
theorem dL_sound_71 : decode cL_sound 71 = .ok (.iconst 1, 1) := by decide +kernel
theorem dL_sound_72 : decode cL_sound 72 = .ok (.invokevirtual 15, 3) := by decide +kernel
theorem dL_sound_75 : decode cL_sound 75 = .ok (.aload_n 0, 1) := by decide +kernel
theorem dL_sound_76 : decode cL_sound 76 = .ok (.iconst 2, 1) := by decide +kernel
theorem dL_sound_77 : decode cL_sound 77 = .ok (.invokevirtual 15, 3) := by decide +kernel
theorem dL_sound_80 : decode cL_sound 80 = .ok (.iadd, 1) := by decide +kernel
theorem dL_sound_81 : decode cL_sound 81 = .ok (.if_icmp .gt 7, 3) := by decide +kernel
theorem dL_sound_84 : decode cL_sound 84 = .ok (.iconst 1, 1) := by decide +kernel
theorem dL_sound_85 : decode cL_sound 85 = .ok (.goto 4, 3) := by decide +kernel
theorem dL_sound_88 : decode cL_sound 88 = .ok (.iconst 0, 1) := by decide +kernel
theorem dL_sound_89 : decode cL_sound 89 = .ok (.istore_n 3, 1) := by decide +kernel
theorem dL_sound_90 : decode cL_sound 90 = .ok (.iload_n 3, 1) := by decide +kernel
theorem dL_sound_91 : decode cL_sound 91 = .ok (.ifCond .eq 66, 3) := by decide +kernel
theorem dL_sound_94 : decode cL_sound 94 = .ok (.aload_n 0, 1) := by decide +kernel
theorem dL_sound_95 : decode cL_sound 95 = .ok (.invokevirtual 28, 3) := by decide +kernel
theorem dL_sound_98 : decode cL_sound 98 = .ok (.aload_n 0, 1) := by decide +kernel
theorem dL_sound_99 : decode cL_sound 99 = .ok (.iconst 3, 1) := by decide +kernel
theorem dL_sound_100 : decode cL_sound 100 = .ok (.invokevirtual 15, 3) := by decide +kernel
theorem dL_sound_103 : decode cL_sound 103 = .ok (.if_icmp .gt 54, 3) := by decide +kernel
theorem dL_sound_106 : decode cL_sound 106 = .ok (.aload_n 0, 1) := by decide +kernel
theorem dL_sound_107 : decode cL_sound 107 = .ok (.iconst 3, 1) := by decide +kernel
theorem dL_sound_108 : decode cL_sound 108 = .ok (.invokevirtual 15, 3) := by decide +kernel
theorem dL_sound_111 : decode cL_sound 111 = .ok (.ifCond .eq 10, 3) := by decide +kernel
theorem dL_sound_114 : decode cL_sound 114 = .ok (.aload_n 0, 1) := by decide +kernel
theorem dL_sound_115 : decode cL_sound 115 = .ok (.invokevirtual 28, 3) := by decide +kernel
theorem dL_sound_118 : decode cL_sound 118 = .ok (.ifCond .le 39, 3) := by decide +kernel
theorem dL_sound_121 : decode cL_sound 121 = .ok (.aload_n 0, 1) := by decide +kernel
theorem dL_sound_122 : decode cL_sound 122 = .ok (.invokevirtual 31, 3) := by decide +kernel
theorem dL_sound_125 : decode cL_sound 125 = .ok (.ifCond .lt 32, 3) := by decide +kernel
theorem dL_sound_128 : decode cL_sound 128 = .ok (.aload_n 0, 1) := by decide +kernel
theorem dL_sound_129 : decode cL_sound 129 = .ok (.invokevirtual 31, 3) := by decide +kernel
theorem dL_sound_132 : decode cL_sound 132 = .ok (.bipush 16, 2) := by decide +kernel
theorem dL_sound_134 : decode cL_sound 134 = .ok (.if_icmp .gt 23, 3) := by decide +kernel
theorem dL_sound_137 : decode cL_sound 137 = .ok (.aload_n 0, 1) := by decide +kernel
theorem dL_sound_138 : decode cL_sound 138 = .ok (.invokevirtual 34, 3) := by decide +kernel
theorem dL_sound_141 : decode cL_sound 141 = .ok (.ifCond .lt 16, 3) := by decide +kernel
theorem dL_sound_144 : decode cL_sound 144 = .ok (.aload_n 0, 1) := by decide +kernel
theorem dL_sound_145 : decode cL_sound 145 = .ok (.invokevirtual 34, 3) := by decide +kernel
theorem dL_sound_148 : decode cL_sound 148 = .ok (.iload_n 1, 1) := by decide +kernel
theorem dL_sound_149 : decode cL_sound 149 = .ok (.irem, 1) := by decide +kernel
theorem dL_sound_150 : decode cL_sound 150 = .ok (.ifCond .ne 7, 3) := by decide +kernel
theorem dL_sound_153 : decode cL_sound 153 = .ok (.iconst 1, 1) := by decide +kernel
theorem dL_sound_154 : decode cL_sound 154 = .ok (.goto 4, 3) := by decide +kernel
theorem dL_sound_157 : decode cL_sound 157 = .ok (.iconst 0, 1) := by decide +kernel
theorem dL_sound_158 : decode cL_sound 158 = .ok (.istore_n 3, 1) := by decide +kernel
theorem dL_sound_159 : decode cL_sound 159 = .ok (.iload_n 3, 1) := by decide +kernel
theorem dL_sound_160 : decode cL_sound 160 = .ok (.ifCond .eq 66, 3) := by decide +kernel
theorem dL_sound_163 : decode cL_sound 163 = .ok (.aload_n 0, 1) := by decide +kernel
theorem dL_sound_164 : decode cL_sound 164 = .ok (.iconst 1, 1) := by decide +kernel
theorem dL_sound_165 : decode cL_sound 165 = .ok (.invokevirtual 37, 3) := by decide +kernel
theorem dL_sound_168 : decode cL_sound 168 = .ok (.ifCond .le 58, 3) := by decide +kernel
theorem dL_sound_171 : decode cL_sound 171 = .ok (.aload_n 0, 1) := by decide +kernel
theorem dL_sound_172 : decode cL_sound 172 = .ok (.iconst 0, 1) := by decide +kernel
theorem dL_sound_173 : decode cL_sound 173 = .ok (.invokevirtual 37, 3) := by decide +kernel
theorem dL_sound_176 : decode cL_sound 176 = .ok (.iload_n 2, 1) := by decide +kernel
theorem dL_sound_177 : decode cL_sound 177 = .ok (.ifCond .ne 7, 3) := by decide +kernel
theorem dL_sound_180 : decode cL_sound 180 = .ok (.iconst 1, 1) := by decide +kernel
theorem dL_sound_181 : decode cL_sound 181 = .ok (.goto 4, 3) := by decide +kernel
theorem dL_sound_184 : decode cL_sound 184 = .ok (.iload_n 2, 1) := by decide +kernel
theorem dL_sound_185 : decode cL_sound 185 = .ok (.imul, 1) := by decide +kernel
theorem dL_sound_186 : decode cL_sound 186 = .ok (.aload_n 0, 1) := by decide +kernel
theorem dL_sound_187 : decode cL_sound 187 = .ok (.iconst 3, 1) := by decide +kernel
theorem dL_sound_188 : decode cL_sound 188 = .ok (.invokevirtual 15, 3) := by decide +kernel
theorem dL_sound_191 : decode cL_sound 191 = .ok (.aload_n 0, 1) := by decide +kernel
theorem dL_sound_192 : decode cL_sound 192 = .ok (.iconst 1, 1) := by decide +kernel
theorem dL_sound_193 : decode cL_sound 193 = .ok (.invokevirtual 37, 3) := by decide +kernel
theorem dL_sound_196 : decode cL_sound 196 = .ok (.imul, 1) := by decide +kernel
theorem dL_sound_197 : decode cL_sound 197 = .ok (.if_icmp .ne 29, 3) := by decide +kernel
theorem dL_sound_200 : decode cL_sound 200 = .ok (.aload_n 0, 1) := by decide +kernel
theorem dL_sound_201 : decode cL_sound 201 = .ok (.iconst 0, 1) := by decide +kernel
theorem dL_sound_202 : decode cL_sound 202 = .ok (.invokevirtual 15, 3) := by decide +kernel
theorem dL_sound_205 : decode cL_sound 205 = .ok (.sipush (-1001), 3) := by decide +kernel
theorem dL_sound_208 : decode cL_sound 208 = .ok (.if_icmp .ne 18, 3) := by decide +kernel
theorem dL_sound_211 : decode cL_sound 211 = .ok (.aload_n 0, 1) := by decide +kernel
theorem dL_sound_212 : decode cL_sound 212 = .ok (.iconst 4, 1) := by decide +kernel
theorem dL_sound_213 : decode cL_sound 213 = .ok (.invokevirtual 15, 3) := by decide +kernel
theorem dL_sound_216 : decode cL_sound 216 = .ok (.sipush (-1001), 3) := by decide +kernel
theorem dL_sound_219 : decode cL_sound 219 = .ok (.if_icmp .ne 7, 3) := by decide +kernel
theorem dL_sound_222 : decode cL_sound 222 = .ok (.iconst 1, 1) := by decide +kernel
theorem dL_sound_223 : decode cL_sound 223 = .ok (.goto 4, 3) := by decide +kernel
theorem dL_sound_226 : decode cL_sound 226 = .ok (.iconst 0, 1) := by decide +kernel
theorem dL_sound_227 : decode cL_sound 227 = .ok (.istore_n 3, 1) := by decide +kernel
theorem dL_sound_228 : decode cL_sound 228 = .ok (.iconst 1, 1) := by decide +kernel
theorem dL_sound_229 : decode cL_sound 229 = .ok (.istore 4, 2) := by decide +kernel
theorem dL_sound_231 : decode cL_sound 231 = .ok (.iload 4, 2) := by decide +kernel
theorem dL_sound_233 : decode cL_sound 233 = .ok (.bipush 20, 2) := by decide +kernel
theorem dL_sound_235 : decode cL_sound 235 = .ok (.if_icmp .gt 113, 3) := by decide +kernel
theorem dL_sound_238 : decode cL_sound 238 = .ok (.iload_n 3, 1) := by decide +kernel
theorem dL_sound_239 : decode cL_sound 239 = .ok (.ifCond .eq 109, 3) := by decide +kernel
theorem dL_sound_242 : decode cL_sound 242 = .ok (.aload_n 0, 1) := by decide +kernel
theorem dL_sound_243 : decode cL_sound 243 = .ok (.iload 4, 2) := by decide +kernel
theorem dL_sound_245 : decode cL_sound 245 = .ok (.invokevirtual 41, 3) := by decide +kernel
theorem dL_sound_248 : decode cL_sound 248 = .ok (.istore 5, 2) := by decide +kernel
theorem dL_sound_250 : decode cL_sound 250 = .ok (.iload 4, 2) := by decide +kernel
theorem dL_sound_252 : decode cL_sound 252 = .ok (.aload_n 0, 1) := by decide +kernel
theorem dL_sound_253 : decode cL_sound 253 = .ok (.invokevirtual 44, 3) := by decide +kernel
theorem dL_sound_256 : decode cL_sound 256 = .ok (.if_icmp .le 19, 3) := by decide +kernel
theorem dL_sound_259 : decode cL_sound 259 = .ok (.iload 5, 2) := by decide +kernel
theorem dL_sound_261 : decode cL_sound 261 = .ok (.sipush (-1004), 3) := by decide +kernel
theorem dL_sound_264 : decode cL_sound 264 = .ok (.if_icmp .ne 7, 3) := by decide +kernel
theorem dL_sound_267 : decode cL_sound 267 = .ok (.iconst 1, 1) := by decide +kernel
theorem dL_sound_268 : decode cL_sound 268 = .ok (.goto 26, 3) := by decide +kernel
theorem dL_sound_271 : decode cL_sound 271 = .ok (.iconst 0, 1) := by decide +kernel
theorem dL_sound_272 : decode cL_sound 272 = .ok (.goto 22, 3) := by decide +kernel
theorem dL_sound_275 : decode cL_sound 275 = .ok (.iload 5, 2) := by decide +kernel
theorem dL_sound_277 : decode cL_sound 277 = .ok (.bipush (-100), 2) := by decide +kernel
theorem dL_sound_279 : decode cL_sound 279 = .ok (.if_icmp .lt 14, 3) := by decide +kernel
theorem dL_sound_282 : decode cL_sound 282 = .ok (.iload 5, 2) := by decide +kernel
theorem dL_sound_284 : decode cL_sound 284 = .ok (.bipush 100, 2) := by decide +kernel
theorem dL_sound_286 : decode cL_sound 286 = .ok (.if_icmp .gt 7, 3) := by decide +kernel
theorem dL_sound_289 : decode cL_sound 289 = .ok (.iconst 1, 1) := by decide +kernel
theorem dL_sound_290 : decode cL_sound 290 = .ok (.goto 4, 3) := by decide +kernel
theorem dL_sound_293 : decode cL_sound 293 = .ok (.iconst 0, 1) := by decide +kernel
theorem dL_sound_294 : decode cL_sound 294 = .ok (.istore_n 3, 1) := by decide +kernel
theorem dL_sound_295 : decode cL_sound 295 = .ok (.aload_n 0, 1) := by decide +kernel
theorem dL_sound_296 : decode cL_sound 296 = .ok (.iload 4, 2) := by decide +kernel
theorem dL_sound_298 : decode cL_sound 298 = .ok (.invokevirtual 47, 3) := by decide +kernel
theorem dL_sound_301 : decode cL_sound 301 = .ok (.istore 6, 2) := by decide +kernel
theorem dL_sound_303 : decode cL_sound 303 = .ok (.iload_n 3, 1) := by decide +kernel
theorem dL_sound_304 : decode cL_sound 304 = .ok (.ifCond .eq 36, 3) := by decide +kernel
theorem dL_sound_307 : decode cL_sound 307 = .ok (.iload 4, 2) := by decide +kernel
theorem dL_sound_309 : decode cL_sound 309 = .ok (.iload_n 2, 1) := by decide +kernel
theorem dL_sound_310 : decode cL_sound 310 = .ok (.if_icmp .le 14, 3) := by decide +kernel
theorem dL_sound_313 : decode cL_sound 313 = .ok (.iload 6, 2) := by decide +kernel
theorem dL_sound_315 : decode cL_sound 315 = .ok (.sipush (-1004), 3) := by decide +kernel
theorem dL_sound_318 : decode cL_sound 318 = .ok (.if_icmp .ne 22, 3) := by decide +kernel
theorem dL_sound_321 : decode cL_sound 321 = .ok (.goto 15, 3) := by decide +kernel
theorem dL_sound_324 : decode cL_sound 324 = .ok (.iload 6, 2) := by decide +kernel
theorem dL_sound_326 : decode cL_sound 326 = .ok (.iconst 1, 1) := by decide +kernel
theorem dL_sound_327 : decode cL_sound 327 = .ok (.if_icmp .lt 13, 3) := by decide +kernel
theorem dL_sound_330 : decode cL_sound 330 = .ok (.iload 6, 2) := by decide +kernel
theorem dL_sound_332 : decode cL_sound 332 = .ok (.iconst 3, 1) := by decide +kernel
theorem dL_sound_333 : decode cL_sound 333 = .ok (.if_icmp .gt 7, 3) := by decide +kernel
theorem dL_sound_336 : decode cL_sound 336 = .ok (.iconst 1, 1) := by decide +kernel
theorem dL_sound_337 : decode cL_sound 337 = .ok (.goto 4, 3) := by decide +kernel
theorem dL_sound_340 : decode cL_sound 340 = .ok (.iconst 0, 1) := by decide +kernel
theorem dL_sound_341 : decode cL_sound 341 = .ok (.istore_n 3, 1) := by decide +kernel
theorem dL_sound_342 : decode cL_sound 342 = .ok (.iinc 4 1, 3) := by decide +kernel
theorem dL_sound_345 : decode cL_sound 345 = .ok (.goto (-114), 3) := by decide +kernel
theorem dL_sound_348 : decode cL_sound 348 = .ok (.iconst 1, 1) := by decide +kernel
theorem dL_sound_349 : decode cL_sound 349 = .ok (.istore 4, 2) := by decide +kernel
theorem dL_sound_351 : decode cL_sound 351 = .ok (.iload 4, 2) := by decide +kernel
theorem dL_sound_353 : decode cL_sound 353 = .ok (.aload_n 0, 1) := by decide +kernel
theorem dL_sound_354 : decode cL_sound 354 = .ok (.invokevirtual 31, 3) := by decide +kernel
theorem dL_sound_357 : decode cL_sound 357 = .ok (.if_icmp .ge 36, 3) := by decide +kernel
theorem dL_sound_360 : decode cL_sound 360 = .ok (.iload_n 3, 1) := by decide +kernel
theorem dL_sound_361 : decode cL_sound 361 = .ok (.ifCond .eq 32, 3) := by decide +kernel
theorem dL_sound_364 : decode cL_sound 364 = .ok (.aload_n 0, 1) := by decide +kernel
theorem dL_sound_365 : decode cL_sound 365 = .ok (.iload 4, 2) := by decide +kernel
theorem dL_sound_367 : decode cL_sound 367 = .ok (.iconst 1, 1) := by decide +kernel
theorem dL_sound_368 : decode cL_sound 368 = .ok (.isub, 1) := by decide +kernel
theorem dL_sound_369 : decode cL_sound 369 = .ok (.invokevirtual 50, 3) := by decide +kernel
theorem dL_sound_372 : decode cL_sound 372 = .ok (.aload_n 0, 1) := by decide +kernel
theorem dL_sound_373 : decode cL_sound 373 = .ok (.iload 4, 2) := by decide +kernel
theorem dL_sound_375 : decode cL_sound 375 = .ok (.invokevirtual 50, 3) := by decide +kernel
theorem dL_sound_378 : decode cL_sound 378 = .ok (.if_icmp .gt 7, 3) := by decide +kernel
theorem dL_sound_381 : decode cL_sound 381 = .ok (.iconst 1, 1) := by decide +kernel
theorem dL_sound_382 : decode cL_sound 382 = .ok (.goto 4, 3) := by decide +kernel
theorem dL_sound_385 : decode cL_sound 385 = .ok (.iconst 0, 1) := by decide +kernel
theorem dL_sound_386 : decode cL_sound 386 = .ok (.istore_n 3, 1) := by decide +kernel
theorem dL_sound_387 : decode cL_sound 387 = .ok (.iinc 4 1, 3) := by decide +kernel
theorem dL_sound_390 : decode cL_sound 390 = .ok (.goto (-39), 3) := by decide +kernel
theorem dL_sound_393 : decode cL_sound 393 = .ok (.iload_n 3, 1) := by decide +kernel
theorem dL_sound_394 : decode cL_sound 394 = .ok (.ifCond .eq 43, 3) := by decide +kernel
theorem dL_sound_397 : decode cL_sound 397 = .ok (.aload_n 0, 1) := by decide +kernel
theorem dL_sound_398 : decode cL_sound 398 = .ok (.iconst 0, 1) := by decide +kernel
theorem dL_sound_399 : decode cL_sound 399 = .ok (.invokevirtual 41, 3) := by decide +kernel
theorem dL_sound_402 : decode cL_sound 402 = .ok (.sipush (-1001), 3) := by decide +kernel
theorem dL_sound_405 : decode cL_sound 405 = .ok (.if_icmp .ne 32, 3) := by decide +kernel
theorem dL_sound_408 : decode cL_sound 408 = .ok (.aload_n 0, 1) := by decide +kernel
theorem dL_sound_409 : decode cL_sound 409 = .ok (.sipush 257, 3) := by decide +kernel
theorem dL_sound_412 : decode cL_sound 412 = .ok (.invokevirtual 41, 3) := by decide +kernel
theorem dL_sound_415 : decode cL_sound 415 = .ok (.sipush (-1001), 3) := by decide +kernel
theorem dL_sound_418 : decode cL_sound 418 = .ok (.if_icmp .ne 19, 3) := by decide +kernel
theorem dL_sound_421 : decode cL_sound 421 = .ok (.aload_n 0, 1) := by decide +kernel
theorem dL_sound_422 : decode cL_sound 422 = .ok (.bipush 33, 2) := by decide +kernel
theorem dL_sound_424 : decode cL_sound 424 = .ok (.invokevirtual 47, 3) := by decide +kernel
theorem dL_sound_427 : decode cL_sound 427 = .ok (.sipush (-1001), 3) := by decide +kernel
theorem dL_sound_430 : decode cL_sound 430 = .ok (.if_icmp .ne 7, 3) := by decide +kernel
theorem dL_sound_433 : decode cL_sound 433 = .ok (.iconst 1, 1) := by decide +kernel
theorem dL_sound_434 : decode cL_sound 434 = .ok (.goto 4, 3) := by decide +kernel
theorem dL_sound_437 : decode cL_sound 437 = .ok (.iconst 0, 1) := by decide +kernel
theorem dL_sound_438 : decode cL_sound 438 = .ok (.ireturn, 1) := by decide +kernel
theorem dL_arrives_0 : decode cL_arrives 0 = .ok (.aload_n 0, 1) := by decide +kernel
theorem dL_arrives_1 : decode cL_arrives 1 = .ok (.iload_n 1, 1) := by decide +kernel
theorem dL_arrives_2 : decode cL_arrives 2 = .ok (.bipush 60, 2) := by decide +kernel
theorem dL_arrives_4 : decode cL_arrives 4 = .ok (.irem, 1) := by decide +kernel
theorem dL_arrives_5 : decode cL_arrives 5 = .ok (.invokevirtual 53, 3) := by decide +kernel
theorem dL_arrives_8 : decode cL_arrives 8 = .ok (.istore_n 2, 1) := by decide +kernel
theorem dL_arrives_9 : decode cL_arrives 9 = .ok (.aload_n 0, 1) := by decide +kernel
theorem dL_arrives_10 : decode cL_arrives 10 = .ok (.invokevirtual 56, 3) := by decide +kernel
theorem dL_arrives_13 : decode cL_arrives 13 = .ok (.istore_n 3, 1) := by decide +kernel
theorem dL_arrives_14 : decode cL_arrives 14 = .ok (.aload_n 0, 1) := by decide +kernel
theorem dL_arrives_15 : decode cL_arrives 15 = .ok (.invokevirtual 59, 3) := by decide +kernel
theorem dL_arrives_18 : decode cL_arrives 18 = .ok (.istore 4, 2) := by decide +kernel
theorem dL_arrives_20 : decode cL_arrives 20 = .ok (.aload_n 0, 1) := by decide +kernel
theorem dL_arrives_21 : decode cL_arrives 21 = .ok (.invokevirtual 9, 3) := by decide +kernel
theorem dL_arrives_24 : decode cL_arrives 24 = .ok (.istore 5, 2) := by decide +kernel
theorem dL_arrives_26 : decode cL_arrives 26 = .ok (.aload_n 0, 1) := by decide +kernel
theorem dL_arrives_27 : decode cL_arrives 27 = .ok (.iload_n 1, 1) := by decide +kernel
theorem dL_arrives_28 : decode cL_arrives 28 = .ok (.bipush 60, 2) := by decide +kernel
theorem dL_arrives_30 : decode cL_arrives 30 = .ok (.irem, 1) := by decide +kernel
theorem dL_arrives_31 : decode cL_arrives 31 = .ok (.invokevirtual 62, 3) := by decide +kernel
theorem dL_arrives_34 : decode cL_arrives 34 = .ok (.istore 6, 2) := by decide +kernel
theorem dL_arrives_36 : decode cL_arrives 36 = .ok (.iload_n 2, 1) := by decide +kernel
theorem dL_arrives_37 : decode cL_arrives 37 = .ok (.ifCond .le 45, 3) := by decide +kernel
theorem dL_arrives_40 : decode cL_arrives 40 = .ok (.iload 6, 2) := by decide +kernel
theorem dL_arrives_42 : decode cL_arrives 42 = .ok (.ifCond .ne 38, 3) := by decide +kernel
theorem dL_arrives_45 : decode cL_arrives 45 = .ok (.aload_n 0, 1) := by decide +kernel
theorem dL_arrives_46 : decode cL_arrives 46 = .ok (.invokevirtual 56, 3) := by decide +kernel
theorem dL_arrives_49 : decode cL_arrives 49 = .ok (.iload_n 3, 1) := by decide +kernel
theorem dL_arrives_50 : decode cL_arrives 50 = .ok (.iconst 1, 1) := by decide +kernel
theorem dL_arrives_51 : decode cL_arrives 51 = .ok (.iadd, 1) := by decide +kernel
theorem dL_arrives_52 : decode cL_arrives 52 = .ok (.if_icmp .ne 28, 3) := by decide +kernel
theorem dL_arrives_55 : decode cL_arrives 55 = .ok (.aload_n 0, 1) := by decide +kernel
theorem dL_arrives_56 : decode cL_arrives 56 = .ok (.iload_n 1, 1) := by decide +kernel
theorem dL_arrives_57 : decode cL_arrives 57 = .ok (.bipush 60, 2) := by decide +kernel
theorem dL_arrives_59 : decode cL_arrives 59 = .ok (.irem, 1) := by decide +kernel
theorem dL_arrives_60 : decode cL_arrives 60 = .ok (.invokevirtual 53, 3) := by decide +kernel
theorem dL_arrives_63 : decode cL_arrives 63 = .ok (.iload_n 2, 1) := by decide +kernel
theorem dL_arrives_64 : decode cL_arrives 64 = .ok (.if_icmp .ne 16, 3) := by decide +kernel
theorem dL_arrives_67 : decode cL_arrives 67 = .ok (.aload_n 0, 1) := by decide +kernel
theorem dL_arrives_68 : decode cL_arrives 68 = .ok (.invokevirtual 59, 3) := by decide +kernel
theorem dL_arrives_71 : decode cL_arrives 71 = .ok (.iload 4, 2) := by decide +kernel
theorem dL_arrives_73 : decode cL_arrives 73 = .ok (.if_icmp .ne 7, 3) := by decide +kernel
theorem dL_arrives_76 : decode cL_arrives 76 = .ok (.iconst 1, 1) := by decide +kernel
theorem dL_arrives_77 : decode cL_arrives 77 = .ok (.goto 4, 3) := by decide +kernel
theorem dL_arrives_80 : decode cL_arrives 80 = .ok (.iconst 0, 1) := by decide +kernel
theorem dL_arrives_81 : decode cL_arrives 81 = .ok (.ireturn, 1) := by decide +kernel
theorem dL_arrives_82 : decode cL_arrives 82 = .ok (.iload 6, 2) := by decide +kernel
theorem dL_arrives_84 : decode cL_arrives 84 = .ok (.ifCond .le 58, 3) := by decide +kernel
theorem dL_arrives_87 : decode cL_arrives 87 = .ok (.aload_n 0, 1) := by decide +kernel
theorem dL_arrives_88 : decode cL_arrives 88 = .ok (.invokevirtual 56, 3) := by decide +kernel
theorem dL_arrives_91 : decode cL_arrives 91 = .ok (.iload_n 3, 1) := by decide +kernel
theorem dL_arrives_92 : decode cL_arrives 92 = .ok (.if_icmp .ne 50, 3) := by decide +kernel
theorem dL_arrives_95 : decode cL_arrives 95 = .ok (.aload_n 0, 1) := by decide +kernel
theorem dL_arrives_96 : decode cL_arrives 96 = .ok (.iload_n 1, 1) := by decide +kernel
theorem dL_arrives_97 : decode cL_arrives 97 = .ok (.bipush 60, 2) := by decide +kernel
theorem dL_arrives_99 : decode cL_arrives 99 = .ok (.irem, 1) := by decide +kernel
theorem dL_arrives_100 : decode cL_arrives 100 = .ok (.invokevirtual 53, 3) := by decide +kernel
theorem dL_arrives_103 : decode cL_arrives 103 = .ok (.iconst 2, 1) := by decide +kernel
theorem dL_arrives_104 : decode cL_arrives 104 = .ok (.if_icmp .ne 38, 3) := by decide +kernel
theorem dL_arrives_107 : decode cL_arrives 107 = .ok (.aload_n 0, 1) := by decide +kernel
theorem dL_arrives_108 : decode cL_arrives 108 = .ok (.invokevirtual 59, 3) := by decide +kernel
theorem dL_arrives_111 : decode cL_arrives 111 = .ok (.iload 4, 2) := by decide +kernel
theorem dL_arrives_113 : decode cL_arrives 113 = .ok (.iload_n 1, 1) := by decide +kernel
theorem dL_arrives_114 : decode cL_arrives 114 = .ok (.bipush 60, 2) := by decide +kernel
theorem dL_arrives_116 : decode cL_arrives 116 = .ok (.irem, 1) := by decide +kernel
theorem dL_arrives_117 : decode cL_arrives 117 = .ok (.iload 5, 2) := by decide +kernel
theorem dL_arrives_119 : decode cL_arrives 119 = .ok (.if_icmp .ge 7, 3) := by decide +kernel
theorem dL_arrives_122 : decode cL_arrives 122 = .ok (.iconst 1, 1) := by decide +kernel
theorem dL_arrives_123 : decode cL_arrives 123 = .ok (.goto 4, 3) := by decide +kernel
theorem dL_arrives_126 : decode cL_arrives 126 = .ok (.iconst 0, 1) := by decide +kernel
theorem dL_arrives_127 : decode cL_arrives 127 = .ok (.iadd, 1) := by decide +kernel
theorem dL_arrives_128 : decode cL_arrives 128 = .ok (.if_icmp .ne 14, 3) := by decide +kernel
theorem dL_arrives_131 : decode cL_arrives 131 = .ok (.aload_n 0, 1) := by decide +kernel
theorem dL_arrives_132 : decode cL_arrives 132 = .ok (.invokevirtual 65, 3) := by decide +kernel
theorem dL_arrives_135 : decode cL_arrives 135 = .ok (.ifCond .lt 7, 3) := by decide +kernel
theorem dL_arrives_138 : decode cL_arrives 138 = .ok (.iconst 1, 1) := by decide +kernel
theorem dL_arrives_139 : decode cL_arrives 139 = .ok (.goto 4, 3) := by decide +kernel
theorem dL_arrives_142 : decode cL_arrives 142 = .ok (.iconst 0, 1) := by decide +kernel
theorem dL_arrives_143 : decode cL_arrives 143 = .ok (.ireturn, 1) := by decide +kernel
theorem dL_packets_0 : decode cL_packets 0 = .ok (.iload_n 3, 1) := by decide +kernel
theorem dL_packets_1 : decode cL_packets 1 = .ok (.iconst 1, 1) := by decide +kernel
theorem dL_packets_2 : decode cL_packets 2 = .ok (.iand, 1) := by decide +kernel
theorem dL_packets_3 : decode cL_packets 3 = .ok (.ifCond .ne 7, 3) := by decide +kernel
theorem dL_packets_6 : decode cL_packets 6 = .ok (.iconst 1, 1) := by decide +kernel
theorem dL_packets_7 : decode cL_packets 7 = .ok (.goto 4, 3) := by decide +kernel
theorem dL_packets_10 : decode cL_packets 10 = .ok (.iconst 0, 1) := by decide +kernel
theorem dL_packets_11 : decode cL_packets 11 = .ok (.istore 4, 2) := by decide +kernel
theorem dL_packets_13 : decode cL_packets 13 = .ok (.iload_n 3, 1) := by decide +kernel
theorem dL_packets_14 : decode cL_packets 14 = .ok (.iconst 1, 1) := by decide +kernel
theorem dL_packets_15 : decode cL_packets 15 = .ok (.ishr, 1) := by decide +kernel
theorem dL_packets_16 : decode cL_packets 16 = .ok (.bipush 60, 2) := by decide +kernel
theorem dL_packets_18 : decode cL_packets 18 = .ok (.iload_n 1, 1) := by decide +kernel
theorem dL_packets_19 : decode cL_packets 19 = .ok (.iload_n 2, 1) := by decide +kernel
theorem dL_packets_20 : decode cL_packets 20 = .ok (.imul, 1) := by decide +kernel
theorem dL_packets_21 : decode cL_packets 21 = .ok (.idiv, 1) := by decide +kernel
theorem dL_packets_22 : decode cL_packets 22 = .ok (.irem, 1) := by decide +kernel
theorem dL_packets_23 : decode cL_packets 23 = .ok (.istore 5, 2) := by decide +kernel
theorem dL_packets_25 : decode cL_packets 25 = .ok (.iload_n 3, 1) := by decide +kernel
theorem dL_packets_26 : decode cL_packets 26 = .ok (.bipush 6, 2) := by decide +kernel
theorem dL_packets_28 : decode cL_packets 28 = .ok (.ishr, 1) := by decide +kernel
theorem dL_packets_29 : decode cL_packets 29 = .ok (.iload 4, 2) := by decide +kernel
theorem dL_packets_31 : decode cL_packets 31 = .ok (.ifCond .eq 7, 3) := by decide +kernel
theorem dL_packets_34 : decode cL_packets 34 = .ok (.iload_n 2, 1) := by decide +kernel
theorem dL_packets_35 : decode cL_packets 35 = .ok (.goto 4, 3) := by decide +kernel
theorem dL_packets_38 : decode cL_packets 38 = .ok (.iload_n 1, 1) := by decide +kernel
theorem dL_packets_39 : decode cL_packets 39 = .ok (.irem, 1) := by decide +kernel
theorem dL_packets_40 : decode cL_packets 40 = .ok (.istore 6, 2) := by decide +kernel
theorem dL_packets_42 : decode cL_packets 42 = .ok (.aload_n 0, 1) := by decide +kernel
theorem dL_packets_43 : decode cL_packets 43 = .ok (.iload 4, 2) := by decide +kernel
theorem dL_packets_45 : decode cL_packets 45 = .ok (.iload 5, 2) := by decide +kernel
theorem dL_packets_47 : decode cL_packets 47 = .ok (.iload 6, 2) := by decide +kernel
theorem dL_packets_49 : decode cL_packets 49 = .ok (.invokevirtual 68, 3) := by decide +kernel
theorem dL_packets_52 : decode cL_packets 52 = .ok (.istore 7, 2) := by decide +kernel
theorem dL_packets_54 : decode cL_packets 54 = .ok (.aload_n 0, 1) := by decide +kernel
theorem dL_packets_55 : decode cL_packets 55 = .ok (.invokevirtual 56, 3) := by decide +kernel
theorem dL_packets_58 : decode cL_packets 58 = .ok (.istore 8, 2) := by decide +kernel
theorem dL_packets_60 : decode cL_packets 60 = .ok (.aload_n 0, 1) := by decide +kernel
theorem dL_packets_61 : decode cL_packets 61 = .ok (.iload 4, 2) := by decide +kernel
theorem dL_packets_63 : decode cL_packets 63 = .ok (.iload 5, 2) := by decide +kernel
theorem dL_packets_65 : decode cL_packets 65 = .ok (.iload 6, 2) := by decide +kernel
theorem dL_packets_67 : decode cL_packets 67 = .ok (.invokevirtual 72, 3) := by decide +kernel
theorem dL_packets_70 : decode cL_packets 70 = .ok (.istore 9, 2) := by decide +kernel
theorem dL_packets_72 : decode cL_packets 72 = .ok (.iload 9, 2) := by decide +kernel
theorem dL_packets_74 : decode cL_packets 74 = .ok (.ifCond .lt 32, 3) := by decide +kernel
theorem dL_packets_77 : decode cL_packets 77 = .ok (.aload_n 0, 1) := by decide +kernel
theorem dL_packets_78 : decode cL_packets 78 = .ok (.invokevirtual 56, 3) := by decide +kernel
theorem dL_packets_81 : decode cL_packets 81 = .ok (.iload 8, 2) := by decide +kernel
theorem dL_packets_83 : decode cL_packets 83 = .ok (.if_icmp .eq 19, 3) := by decide +kernel
theorem dL_packets_86 : decode cL_packets 86 = .ok (.iload 9, 2) := by decide +kernel
theorem dL_packets_88 : decode cL_packets 88 = .ok (.ifCond .ne 18, 3) := by decide +kernel
theorem dL_packets_91 : decode cL_packets 91 = .ok (.aload_n 0, 1) := by decide +kernel
theorem dL_packets_92 : decode cL_packets 92 = .ok (.invokevirtual 56, 3) := by decide +kernel
theorem dL_packets_95 : decode cL_packets 95 = .ok (.iload 8, 2) := by decide +kernel
theorem dL_packets_97 : decode cL_packets 97 = .ok (.iconst 1, 1) := by decide +kernel
theorem dL_packets_98 : decode cL_packets 98 = .ok (.iadd, 1) := by decide +kernel
theorem dL_packets_99 : decode cL_packets 99 = .ok (.if_icmp .ne 7, 3) := by decide +kernel
theorem dL_packets_102 : decode cL_packets 102 = .ok (.iconst 1, 1) := by decide +kernel
theorem dL_packets_103 : decode cL_packets 103 = .ok (.goto 4, 3) := by decide +kernel
theorem dL_packets_106 : decode cL_packets 106 = .ok (.iconst 0, 1) := by decide +kernel
theorem dL_packets_107 : decode cL_packets 107 = .ok (.istore 10, 2) := by decide +kernel
theorem dL_packets_109 : decode cL_packets 109 = .ok (.iload 10, 2) := by decide +kernel
theorem dL_packets_111 : decode cL_packets 111 = .ok (.ifCond .eq 50, 3) := by decide +kernel
theorem dL_packets_114 : decode cL_packets 114 = .ok (.aload_n 0, 1) := by decide +kernel
theorem dL_packets_115 : decode cL_packets 115 = .ok (.invokevirtual 56, 3) := by decide +kernel
theorem dL_packets_118 : decode cL_packets 118 = .ok (.iload 8, 2) := by decide +kernel
theorem dL_packets_120 : decode cL_packets 120 = .ok (.if_icmp .gt 14, 3) := by decide +kernel
theorem dL_packets_123 : decode cL_packets 123 = .ok (.iload 7, 2) := by decide +kernel
theorem dL_packets_125 : decode cL_packets 125 = .ok (.iconst 1, 1) := by decide +kernel
theorem dL_packets_126 : decode cL_packets 126 = .ok (.if_icmp .ne 8, 3) := by decide +kernel
theorem dL_packets_129 : decode cL_packets 129 = .ok (.iload 9, 2) := by decide +kernel
theorem dL_packets_131 : decode cL_packets 131 = .ok (.ifCond .le 30, 3) := by decide +kernel
theorem dL_packets_134 : decode cL_packets 134 = .ok (.aload_n 0, 1) := by decide +kernel
theorem dL_packets_135 : decode cL_packets 135 = .ok (.invokevirtual 56, 3) := by decide +kernel
theorem dL_packets_138 : decode cL_packets 138 = .ok (.iload 8, 2) := by decide +kernel
theorem dL_packets_140 : decode cL_packets 140 = .ok (.if_icmp .gt 17, 3) := by decide +kernel
theorem dL_packets_143 : decode cL_packets 143 = .ok (.aload_n 0, 1) := by decide +kernel
theorem dL_packets_144 : decode cL_packets 144 = .ok (.iload 4, 2) := by decide +kernel
theorem dL_packets_146 : decode cL_packets 146 = .ok (.iload 5, 2) := by decide +kernel
theorem dL_packets_148 : decode cL_packets 148 = .ok (.iload 6, 2) := by decide +kernel
theorem dL_packets_150 : decode cL_packets 150 = .ok (.invokevirtual 68, 3) := by decide +kernel
theorem dL_packets_153 : decode cL_packets 153 = .ok (.iconst 1, 1) := by decide +kernel
theorem dL_packets_154 : decode cL_packets 154 = .ok (.if_icmp .eq 7, 3) := by decide +kernel
theorem dL_packets_157 : decode cL_packets 157 = .ok (.iconst 1, 1) := by decide +kernel
theorem dL_packets_158 : decode cL_packets 158 = .ok (.goto 4, 3) := by decide +kernel
theorem dL_packets_161 : decode cL_packets 161 = .ok (.iconst 0, 1) := by decide +kernel
theorem dL_packets_162 : decode cL_packets 162 = .ok (.istore 10, 2) := by decide +kernel
theorem dL_packets_164 : decode cL_packets 164 = .ok (.iload 10, 2) := by decide +kernel
theorem dL_packets_166 : decode cL_packets 166 = .ok (.ifCond .eq 28, 3) := by decide +kernel
theorem dL_packets_169 : decode cL_packets 169 = .ok (.aload_n 0, 1) := by decide +kernel
theorem dL_packets_170 : decode cL_packets 170 = .ok (.iload 5, 2) := by decide +kernel
theorem dL_packets_172 : decode cL_packets 172 = .ok (.invokevirtual 75, 3) := by decide +kernel
theorem dL_packets_175 : decode cL_packets 175 = .ok (.ifCond .lt 19, 3) := by decide +kernel
theorem dL_packets_178 : decode cL_packets 178 = .ok (.aload_n 0, 1) := by decide +kernel
theorem dL_packets_179 : decode cL_packets 179 = .ok (.iload 5, 2) := by decide +kernel
theorem dL_packets_181 : decode cL_packets 181 = .ok (.invokevirtual 75, 3) := by decide +kernel
theorem dL_packets_184 : decode cL_packets 184 = .ok (.iload_n 1, 1) := by decide +kernel
theorem dL_packets_185 : decode cL_packets 185 = .ok (.iload_n 2, 1) := by decide +kernel
theorem dL_packets_186 : decode cL_packets 186 = .ok (.imul, 1) := by decide +kernel
theorem dL_packets_187 : decode cL_packets 187 = .ok (.if_icmp .gt 7, 3) := by decide +kernel
theorem dL_packets_190 : decode cL_packets 190 = .ok (.iconst 1, 1) := by decide +kernel
theorem dL_packets_191 : decode cL_packets 191 = .ok (.goto 4, 3) := by decide +kernel
theorem dL_packets_194 : decode cL_packets 194 = .ok (.iconst 0, 1) := by decide +kernel
theorem dL_packets_195 : decode cL_packets 195 = .ok (.ireturn, 1) := by decide +kernel
theorem dL_predicts_0 : decode cL_predicts 0 = .ok (.aload_n 0, 1) := by decide +kernel
theorem dL_predicts_1 : decode cL_predicts 1 = .ok (.invokevirtual 78, 3) := by decide +kernel
theorem dL_predicts_4 : decode cL_predicts 4 = .ok (.lstore_n 2, 1) := by decide +kernel
theorem dL_predicts_5 : decode cL_predicts 5 = .ok (.aload_n 0, 1) := by decide +kernel
theorem dL_predicts_6 : decode cL_predicts 6 = .ok (.invokevirtual 82, 3) := by decide +kernel
theorem dL_predicts_9 : decode cL_predicts 9 = .ok (.istore 4, 2) := by decide +kernel
theorem dL_predicts_11 : decode cL_predicts 11 = .ok (.iconst 1, 1) := by decide +kernel
theorem dL_predicts_12 : decode cL_predicts 12 = .ok (.iload_n 1, 1) := by decide +kernel
theorem dL_predicts_13 : decode cL_predicts 13 = .ok (.bipush 60, 2) := by decide +kernel
theorem dL_predicts_15 : decode cL_predicts 15 = .ok (.irem, 1) := by decide +kernel
theorem dL_predicts_16 : decode cL_predicts 16 = .ok (.iadd, 1) := by decide +kernel
theorem dL_predicts_17 : decode cL_predicts 17 = .ok (.istore 5, 2) := by decide +kernel
theorem dL_predicts_19 : decode cL_predicts 19 = .ok (.aload_n 0, 1) := by decide +kernel
theorem dL_predicts_20 : decode cL_predicts 20 = .ok (.iload 5, 2) := by decide +kernel
theorem dL_predicts_22 : decode cL_predicts 22 = .ok (.invokevirtual 85, 3) := by decide +kernel
theorem dL_predicts_25 : decode cL_predicts 25 = .ok (.istore 6, 2) := by decide +kernel
theorem dL_predicts_27 : decode cL_predicts 27 = .ok (.aload_n 0, 1) := by decide +kernel
theorem dL_predicts_28 : decode cL_predicts 28 = .ok (.invokevirtual 9, 3) := by decide +kernel
theorem dL_predicts_31 : decode cL_predicts 31 = .ok (.ifCond .ge 9, 3) := by decide +kernel
theorem dL_predicts_34 : decode cL_predicts 34 = .ok (.sipush 999, 3) := by decide +kernel
theorem dL_predicts_37 : decode cL_predicts 37 = .ok (.goto 7, 3) := by decide +kernel
theorem dL_predicts_40 : decode cL_predicts 40 = .ok (.aload_n 0, 1) := by decide +kernel
theorem dL_predicts_41 : decode cL_predicts 41 = .ok (.invokevirtual 9, 3) := by decide +kernel
theorem dL_predicts_44 : decode cL_predicts 44 = .ok (.iload_n 1, 1) := by decide +kernel
theorem dL_predicts_45 : decode cL_predicts 45 = .ok (.bipush 8, 2) := by decide +kernel
theorem dL_predicts_47 : decode cL_predicts 47 = .ok (.ishr, 1) := by decide +kernel
theorem dL_predicts_48 : decode cL_predicts 48 = .ok (.iconst 5, 1) := by decide +kernel
theorem dL_predicts_49 : decode cL_predicts 49 = .ok (.irem, 1) := by decide +kernel
theorem dL_predicts_50 : decode cL_predicts 50 = .ok (.iadd, 1) := by decide +kernel
theorem dL_predicts_51 : decode cL_predicts 51 = .ok (.istore 7, 2) := by decide +kernel
theorem dL_predicts_53 : decode cL_predicts 53 = .ok (.iload 7, 2) := by decide +kernel
theorem dL_predicts_55 : decode cL_predicts 55 = .ok (.sipush 999, 3) := by decide +kernel
theorem dL_predicts_58 : decode cL_predicts 58 = .ok (.if_icmp .gt 10, 3) := by decide +kernel
theorem dL_predicts_61 : decode cL_predicts 61 = .ok (.aload_n 0, 1) := by decide +kernel
theorem dL_predicts_62 : decode cL_predicts 62 = .ok (.invokevirtual 9, 3) := by decide +kernel
theorem dL_predicts_65 : decode cL_predicts 65 = .ok (.ifCond .ge 9, 3) := by decide +kernel
theorem dL_predicts_68 : decode cL_predicts 68 = .ok (.sipush (-1004), 3) := by decide +kernel
theorem dL_predicts_71 : decode cL_predicts 71 = .ok (.goto 9, 3) := by decide +kernel
theorem dL_predicts_74 : decode cL_predicts 74 = .ok (.aload_n 0, 1) := by decide +kernel
theorem dL_predicts_75 : decode cL_predicts 75 = .ok (.iload 7, 2) := by decide +kernel
theorem dL_predicts_77 : decode cL_predicts 77 = .ok (.invokevirtual 88, 3) := by decide +kernel
theorem dL_predicts_80 : decode cL_predicts 80 = .ok (.istore 8, 2) := by decide +kernel
theorem dL_predicts_82 : decode cL_predicts 82 = .ok (.aload_n 0, 1) := by decide +kernel
theorem dL_predicts_83 : decode cL_predicts 83 = .ok (.invokevirtual 78, 3) := by decide +kernel
theorem dL_predicts_86 : decode cL_predicts 86 = .ok (.lload_n 2, 1) := by decide +kernel
theorem dL_predicts_87 : decode cL_predicts 87 = .ok (.lcmp, 1) := by decide +kernel
theorem dL_predicts_88 : decode cL_predicts 88 = .ok (.ifCond .ne 65, 3) := by decide +kernel
theorem dL_predicts_91 : decode cL_predicts 91 = .ok (.aload_n 0, 1) := by decide +kernel
theorem dL_predicts_92 : decode cL_predicts 92 = .ok (.iconst 1, 1) := by decide +kernel
theorem dL_predicts_93 : decode cL_predicts 93 = .ok (.invokevirtual 91, 3) := by decide +kernel
theorem dL_predicts_96 : decode cL_predicts 96 = .ok (.aload_n 0, 1) := by decide +kernel
theorem dL_predicts_97 : decode cL_predicts 97 = .ok (.invokevirtual 94, 3) := by decide +kernel
theorem dL_predicts_100 : decode cL_predicts 100 = .ok (.if_icmp .ne 53, 3) := by decide +kernel
theorem dL_predicts_103 : decode cL_predicts 103 = .ok (.iload 4, 2) := by decide +kernel
theorem dL_predicts_105 : decode cL_predicts 105 = .ok (.sipush (-1004), 3) := by decide +kernel
theorem dL_predicts_108 : decode cL_predicts 108 = .ok (.if_icmp .eq 16, 3) := by decide +kernel
theorem dL_predicts_111 : decode cL_predicts 111 = .ok (.iload 4, 2) := by decide +kernel
theorem dL_predicts_113 : decode cL_predicts 113 = .ok (.ifCond .lt 40, 3) := by decide +kernel
theorem dL_predicts_116 : decode cL_predicts 116 = .ok (.iload 4, 2) := by decide +kernel
theorem dL_predicts_118 : decode cL_predicts 118 = .ok (.sipush 1000, 3) := by decide +kernel
theorem dL_predicts_121 : decode cL_predicts 121 = .ok (.if_icmp .ge 32, 3) := by decide +kernel
theorem dL_predicts_124 : decode cL_predicts 124 = .ok (.iload 4, 2) := by decide +kernel
theorem dL_predicts_126 : decode cL_predicts 126 = .ok (.ifCond .lt 18, 3) := by decide +kernel
theorem dL_predicts_129 : decode cL_predicts 129 = .ok (.iload 4, 2) := by decide +kernel
theorem dL_predicts_131 : decode cL_predicts 131 = .ok (.iload 5, 2) := by decide +kernel
theorem dL_predicts_133 : decode cL_predicts 133 = .ok (.if_icmp .ge 11, 3) := by decide +kernel
theorem dL_predicts_136 : decode cL_predicts 136 = .ok (.iload 6, 2) := by decide +kernel
theorem dL_predicts_138 : decode cL_predicts 138 = .ok (.ifCond .le 15, 3) := by decide +kernel
theorem dL_predicts_141 : decode cL_predicts 141 = .ok (.goto 8, 3) := by decide +kernel
theorem dL_predicts_144 : decode cL_predicts 144 = .ok (.iload 6, 2) := by decide +kernel
theorem dL_predicts_146 : decode cL_predicts 146 = .ok (.ifCond .ne 7, 3) := by decide +kernel
theorem dL_predicts_149 : decode cL_predicts 149 = .ok (.iconst 1, 1) := by decide +kernel
theorem dL_predicts_150 : decode cL_predicts 150 = .ok (.goto 4, 3) := by decide +kernel
theorem dL_predicts_153 : decode cL_predicts 153 = .ok (.iconst 0, 1) := by decide +kernel
theorem dL_predicts_154 : decode cL_predicts 154 = .ok (.istore 9, 2) := by decide +kernel
theorem dL_predicts_156 : decode cL_predicts 156 = .ok (.aload_n 0, 1) := by decide +kernel
theorem dL_predicts_157 : decode cL_predicts 157 = .ok (.iconst 3, 1) := by decide +kernel
theorem dL_predicts_158 : decode cL_predicts 158 = .ok (.invokevirtual 15, 3) := by decide +kernel
theorem dL_predicts_161 : decode cL_predicts 161 = .ok (.istore 10, 2) := by decide +kernel
theorem dL_predicts_163 : decode cL_predicts 163 = .ok (.iload 9, 2) := by decide +kernel
theorem dL_predicts_165 : decode cL_predicts 165 = .ok (.ifCond .eq 46, 3) := by decide +kernel
theorem dL_predicts_168 : decode cL_predicts 168 = .ok (.aload_n 0, 1) := by decide +kernel
theorem dL_predicts_169 : decode cL_predicts 169 = .ok (.iload 5, 2) := by decide +kernel
theorem dL_predicts_171 : decode cL_predicts 171 = .ok (.invokevirtual 97, 3) := by decide +kernel
theorem dL_predicts_174 : decode cL_predicts 174 = .ok (.ifCond .lt 37, 3) := by decide +kernel
theorem dL_predicts_177 : decode cL_predicts 177 = .ok (.aload_n 0, 1) := by decide +kernel
theorem dL_predicts_178 : decode cL_predicts 178 = .ok (.iconst 3, 1) := by decide +kernel
theorem dL_predicts_179 : decode cL_predicts 179 = .ok (.invokevirtual 15, 3) := by decide +kernel
theorem dL_predicts_182 : decode cL_predicts 182 = .ok (.iload 10, 2) := by decide +kernel
theorem dL_predicts_184 : decode cL_predicts 184 = .ok (.iload 6, 2) := by decide +kernel
theorem dL_predicts_186 : decode cL_predicts 186 = .ok (.iadd, 1) := by decide +kernel
theorem dL_predicts_187 : decode cL_predicts 187 = .ok (.if_icmp .ne 24, 3) := by decide +kernel
theorem dL_predicts_190 : decode cL_predicts 190 = .ok (.aload_n 0, 1) := by decide +kernel
theorem dL_predicts_191 : decode cL_predicts 191 = .ok (.iconst 1, 1) := by decide +kernel
theorem dL_predicts_192 : decode cL_predicts 192 = .ok (.invokevirtual 100, 3) := by decide +kernel
theorem dL_predicts_195 : decode cL_predicts 195 = .ok (.ifCond .lt 16, 3) := by decide +kernel
theorem dL_predicts_198 : decode cL_predicts 198 = .ok (.aload_n 0, 1) := by decide +kernel
theorem dL_predicts_199 : decode cL_predicts 199 = .ok (.invokevirtual 78, 3) := by decide +kernel
theorem dL_predicts_202 : decode cL_predicts 202 = .ok (.lload_n 2, 1) := by decide +kernel
theorem dL_predicts_203 : decode cL_predicts 203 = .ok (.lcmp, 1) := by decide +kernel
theorem dL_predicts_204 : decode cL_predicts 204 = .ok (.ifCond .ne 7, 3) := by decide +kernel
theorem dL_predicts_207 : decode cL_predicts 207 = .ok (.iconst 1, 1) := by decide +kernel
theorem dL_predicts_208 : decode cL_predicts 208 = .ok (.goto 4, 3) := by decide +kernel
theorem dL_predicts_211 : decode cL_predicts 211 = .ok (.iconst 0, 1) := by decide +kernel
theorem dL_predicts_212 : decode cL_predicts 212 = .ok (.istore 9, 2) := by decide +kernel
theorem dL_predicts_214 : decode cL_predicts 214 = .ok (.iload 4, 2) := by decide +kernel
theorem dL_predicts_216 : decode cL_predicts 216 = .ok (.ifCond .lt 75, 3) := by decide +kernel
theorem dL_predicts_219 : decode cL_predicts 219 = .ok (.iload 4, 2) := by decide +kernel
theorem dL_predicts_221 : decode cL_predicts 221 = .ok (.bipush 100, 2) := by decide +kernel
theorem dL_predicts_223 : decode cL_predicts 223 = .ok (.if_icmp .ge 68, 3) := by decide +kernel
theorem dL_predicts_226 : decode cL_predicts 226 = .ok (.iload 9, 2) := by decide +kernel
theorem dL_predicts_228 : decode cL_predicts 228 = .ok (.ifCond .eq 60, 3) := by decide +kernel
theorem dL_predicts_231 : decode cL_predicts 231 = .ok (.iload 4, 2) := by decide +kernel
theorem dL_predicts_233 : decode cL_predicts 233 = .ok (.ifCond .eq 12, 3) := by decide +kernel
theorem dL_predicts_236 : decode cL_predicts 236 = .ok (.aload_n 0, 1) := by decide +kernel
theorem dL_predicts_237 : decode cL_predicts 237 = .ok (.iload 4, 2) := by decide +kernel
theorem dL_predicts_239 : decode cL_predicts 239 = .ok (.invokevirtual 97, 3) := by decide +kernel
theorem dL_predicts_242 : decode cL_predicts 242 = .ok (.ifCond .lt 46, 3) := by decide +kernel
theorem dL_predicts_245 : decode cL_predicts 245 = .ok (.aload_n 0, 1) := by decide +kernel
theorem dL_predicts_246 : decode cL_predicts 246 = .ok (.iconst 3, 1) := by decide +kernel
theorem dL_predicts_247 : decode cL_predicts 247 = .ok (.invokevirtual 15, 3) := by decide +kernel
theorem dL_predicts_250 : decode cL_predicts 250 = .ok (.iload 10, 2) := by decide +kernel
theorem dL_predicts_252 : decode cL_predicts 252 = .ok (.if_icmp .ne 36, 3) := by decide +kernel
theorem dL_predicts_255 : decode cL_predicts 255 = .ok (.aload_n 0, 1) := by decide +kernel
theorem dL_predicts_256 : decode cL_predicts 256 = .ok (.iconst 1, 1) := by decide +kernel
theorem dL_predicts_257 : decode cL_predicts 257 = .ok (.invokevirtual 97, 3) := by decide +kernel
theorem dL_predicts_260 : decode cL_predicts 260 = .ok (.iconst 1, 1) := by decide +kernel
theorem dL_predicts_261 : decode cL_predicts 261 = .ok (.if_icmp .ne 27, 3) := by decide +kernel
theorem dL_predicts_264 : decode cL_predicts 264 = .ok (.aload_n 0, 1) := by decide +kernel
theorem dL_predicts_265 : decode cL_predicts 265 = .ok (.iconst 3, 1) := by decide +kernel
theorem dL_predicts_266 : decode cL_predicts 266 = .ok (.invokevirtual 15, 3) := by decide +kernel
theorem dL_predicts_269 : decode cL_predicts 269 = .ok (.iload 10, 2) := by decide +kernel
theorem dL_predicts_271 : decode cL_predicts 271 = .ok (.iconst 1, 1) := by decide +kernel
theorem dL_predicts_272 : decode cL_predicts 272 = .ok (.iadd, 1) := by decide +kernel
theorem dL_predicts_273 : decode cL_predicts 273 = .ok (.if_icmp .ne 15, 3) := by decide +kernel
theorem dL_predicts_276 : decode cL_predicts 276 = .ok (.aload_n 0, 1) := by decide +kernel
theorem dL_predicts_277 : decode cL_predicts 277 = .ok (.iconst 1, 1) := by decide +kernel
theorem dL_predicts_278 : decode cL_predicts 278 = .ok (.invokevirtual 100, 3) := by decide +kernel
theorem dL_predicts_281 : decode cL_predicts 281 = .ok (.ifCond .lt 7, 3) := by decide +kernel
theorem dL_predicts_284 : decode cL_predicts 284 = .ok (.iconst 1, 1) := by decide +kernel
theorem dL_predicts_285 : decode cL_predicts 285 = .ok (.goto 4, 3) := by decide +kernel
theorem dL_predicts_288 : decode cL_predicts 288 = .ok (.iconst 0, 1) := by decide +kernel
theorem dL_predicts_289 : decode cL_predicts 289 = .ok (.istore 9, 2) := by decide +kernel
theorem dL_predicts_291 : decode cL_predicts 291 = .ok (.iload 8, 2) := by decide +kernel
theorem dL_predicts_293 : decode cL_predicts 293 = .ok (.ifCond .lt 87, 3) := by decide +kernel
theorem dL_predicts_296 : decode cL_predicts 296 = .ok (.iload 8, 2) := by decide +kernel
theorem dL_predicts_298 : decode cL_predicts 298 = .ok (.bipush 100, 2) := by decide +kernel
theorem dL_predicts_300 : decode cL_predicts 300 = .ok (.if_icmp .ge 80, 3) := by decide +kernel
theorem dL_predicts_303 : decode cL_predicts 303 = .ok (.iload 9, 2) := by decide +kernel
theorem dL_predicts_305 : decode cL_predicts 305 = .ok (.ifCond .eq 72, 3) := by decide +kernel
theorem dL_predicts_308 : decode cL_predicts 308 = .ok (.iload 8, 2) := by decide +kernel
theorem dL_predicts_310 : decode cL_predicts 310 = .ok (.ifCond .eq 12, 3) := by decide +kernel
theorem dL_predicts_313 : decode cL_predicts 313 = .ok (.aload_n 0, 1) := by decide +kernel
theorem dL_predicts_314 : decode cL_predicts 314 = .ok (.iload 8, 2) := by decide +kernel
theorem dL_predicts_316 : decode cL_predicts 316 = .ok (.invokevirtual 97, 3) := by decide +kernel
theorem dL_predicts_319 : decode cL_predicts 319 = .ok (.ifCond .lt 58, 3) := by decide +kernel
theorem dL_predicts_322 : decode cL_predicts 322 = .ok (.aload_n 0, 1) := by decide +kernel
theorem dL_predicts_323 : decode cL_predicts 323 = .ok (.invokevirtual 9, 3) := by decide +kernel
theorem dL_predicts_326 : decode cL_predicts 326 = .ok (.iload 7, 2) := by decide +kernel
theorem dL_predicts_328 : decode cL_predicts 328 = .ok (.if_icmp .ne 49, 3) := by decide +kernel
theorem dL_predicts_331 : decode cL_predicts 331 = .ok (.aload_n 0, 1) := by decide +kernel
theorem dL_predicts_332 : decode cL_predicts 332 = .ok (.iconst 1, 1) := by decide +kernel
theorem dL_predicts_333 : decode cL_predicts 333 = .ok (.invokevirtual 97, 3) := by decide +kernel
theorem dL_predicts_336 : decode cL_predicts 336 = .ok (.iconst 1, 1) := by decide +kernel
theorem dL_predicts_337 : decode cL_predicts 337 = .ok (.if_icmp .ne 40, 3) := by decide +kernel
theorem dL_predicts_340 : decode cL_predicts 340 = .ok (.aload_n 0, 1) := by decide +kernel
theorem dL_predicts_341 : decode cL_predicts 341 = .ok (.invokevirtual 9, 3) := by decide +kernel
theorem dL_predicts_344 : decode cL_predicts 344 = .ok (.iload 7, 2) := by decide +kernel
theorem dL_predicts_346 : decode cL_predicts 346 = .ok (.sipush 999, 3) := by decide +kernel
theorem dL_predicts_349 : decode cL_predicts 349 = .ok (.if_icmp .ne 9, 3) := by decide +kernel
theorem dL_predicts_352 : decode cL_predicts 352 = .ok (.sipush (-1004), 3) := by decide +kernel
theorem dL_predicts_355 : decode cL_predicts 355 = .ok (.goto 7, 3) := by decide +kernel
theorem dL_predicts_358 : decode cL_predicts 358 = .ok (.iload 7, 2) := by decide +kernel
theorem dL_predicts_360 : decode cL_predicts 360 = .ok (.iconst 1, 1) := by decide +kernel
theorem dL_predicts_361 : decode cL_predicts 361 = .ok (.iadd, 1) := by decide +kernel
theorem dL_predicts_362 : decode cL_predicts 362 = .ok (.if_icmp .ne 15, 3) := by decide +kernel
theorem dL_predicts_365 : decode cL_predicts 365 = .ok (.aload_n 0, 1) := by decide +kernel
theorem dL_predicts_366 : decode cL_predicts 366 = .ok (.iconst 1, 1) := by decide +kernel
theorem dL_predicts_367 : decode cL_predicts 367 = .ok (.invokevirtual 100, 3) := by decide +kernel
theorem dL_predicts_370 : decode cL_predicts 370 = .ok (.ifCond .lt 7, 3) := by decide +kernel
theorem dL_predicts_373 : decode cL_predicts 373 = .ok (.iconst 1, 1) := by decide +kernel
theorem dL_predicts_374 : decode cL_predicts 374 = .ok (.goto 4, 3) := by decide +kernel
theorem dL_predicts_377 : decode cL_predicts 377 = .ok (.iconst 0, 1) := by decide +kernel
theorem dL_predicts_378 : decode cL_predicts 378 = .ok (.istore 9, 2) := by decide +kernel
theorem dL_predicts_380 : decode cL_predicts 380 = .ok (.iload 9, 2) := by decide +kernel
theorem dL_predicts_382 : decode cL_predicts 382 = .ok (.ifCond .eq 16, 3) := by decide +kernel
theorem dL_predicts_385 : decode cL_predicts 385 = .ok (.aload_n 0, 1) := by decide +kernel
theorem dL_predicts_386 : decode cL_predicts 386 = .ok (.invokevirtual 78, 3) := by decide +kernel
theorem dL_predicts_389 : decode cL_predicts 389 = .ok (.lload_n 2, 1) := by decide +kernel
theorem dL_predicts_390 : decode cL_predicts 390 = .ok (.lcmp, 1) := by decide +kernel
theorem dL_predicts_391 : decode cL_predicts 391 = .ok (.ifCond .ne 7, 3) := by decide +kernel
theorem dL_predicts_394 : decode cL_predicts 394 = .ok (.iconst 1, 1) := by decide +kernel
theorem dL_predicts_395 : decode cL_predicts 395 = .ok (.goto 4, 3) := by decide +kernel
theorem dL_predicts_398 : decode cL_predicts 398 = .ok (.iconst 0, 1) := by decide +kernel
theorem dL_predicts_399 : decode cL_predicts 399 = .ok (.ireturn, 1) := by decide +kernel
theorem dL_number_0 : decode cL_number 0 = .ok (.iload_n 1, 1) := by decide +kernel
theorem dL_number_1 : decode cL_number 1 = .ok (.bipush 99, 2) := by decide +kernel
theorem dL_number_3 : decode cL_number 3 = .ok (.if_icmp .le 15, 3) := by decide +kernel
theorem dL_number_6 : decode cL_number 6 = .ok (.aload_n 0, 1) := by decide +kernel
theorem dL_number_7 : decode cL_number 7 = .ok (.bipush 48, 2) := by decide +kernel
theorem dL_number_9 : decode cL_number 9 = .ok (.iload_n 1, 1) := by decide +kernel
theorem dL_number_10 : decode cL_number 10 = .ok (.bipush 100, 2) := by decide +kernel
theorem dL_number_12 : decode cL_number 12 = .ok (.idiv, 1) := by decide +kernel
theorem dL_number_13 : decode cL_number 13 = .ok (.iadd, 1) := by decide +kernel
theorem dL_number_14 : decode cL_number 14 = .ok (.invokevirtual 103, 3) := by decide +kernel
theorem dL_number_17 : decode cL_number 17 = .ok (.pop, 1) := by decide +kernel
theorem dL_number_18 : decode cL_number 18 = .ok (.iload_n 1, 1) := by decide +kernel
theorem dL_number_19 : decode cL_number 19 = .ok (.bipush 9, 2) := by decide +kernel
theorem dL_number_21 : decode cL_number 21 = .ok (.if_icmp .le 18, 3) := by decide +kernel
theorem dL_number_24 : decode cL_number 24 = .ok (.aload_n 0, 1) := by decide +kernel
theorem dL_number_25 : decode cL_number 25 = .ok (.bipush 48, 2) := by decide +kernel
theorem dL_number_27 : decode cL_number 27 = .ok (.iload_n 1, 1) := by decide +kernel
theorem dL_number_28 : decode cL_number 28 = .ok (.bipush 10, 2) := by decide +kernel
theorem dL_number_30 : decode cL_number 30 = .ok (.idiv, 1) := by decide +kernel
theorem dL_number_31 : decode cL_number 31 = .ok (.bipush 10, 2) := by decide +kernel
theorem dL_number_33 : decode cL_number 33 = .ok (.irem, 1) := by decide +kernel
theorem dL_number_34 : decode cL_number 34 = .ok (.iadd, 1) := by decide +kernel
theorem dL_number_35 : decode cL_number 35 = .ok (.invokevirtual 103, 3) := by decide +kernel
theorem dL_number_38 : decode cL_number 38 = .ok (.pop, 1) := by decide +kernel
theorem dL_number_39 : decode cL_number 39 = .ok (.aload_n 0, 1) := by decide +kernel
theorem dL_number_40 : decode cL_number 40 = .ok (.bipush 48, 2) := by decide +kernel
theorem dL_number_42 : decode cL_number 42 = .ok (.iload_n 1, 1) := by decide +kernel
theorem dL_number_43 : decode cL_number 43 = .ok (.bipush 10, 2) := by decide +kernel
theorem dL_number_45 : decode cL_number 45 = .ok (.irem, 1) := by decide +kernel
theorem dL_number_46 : decode cL_number 46 = .ok (.iadd, 1) := by decide +kernel
theorem dL_number_47 : decode cL_number 47 = .ok (.invokevirtual 103, 3) := by decide +kernel
theorem dL_number_50 : decode cL_number 50 = .ok (.pop, 1) := by decide +kernel
theorem dL_number_51 : decode cL_number 51 = .ok (.return_, 1) := by decide +kernel
theorem dL_schedules_0 : decode cL_schedules 0 = .ok (.aload_n 0, 1) := by decide +kernel
theorem dL_schedules_1 : decode cL_schedules 1 = .ok (.invokevirtual 106, 3) := by decide +kernel
theorem dL_schedules_4 : decode cL_schedules 4 = .ok (.pop, 1) := by decide +kernel
theorem dL_schedules_5 : decode cL_schedules 5 = .ok (.aload_n 0, 1) := by decide +kernel
theorem dL_schedules_6 : decode cL_schedules 6 = .ok (.invokevirtual 109, 3) := by decide +kernel
theorem dL_schedules_9 : decode cL_schedules 9 = .ok (.istore 4, 2) := by decide +kernel
theorem dL_schedules_11 : decode cL_schedules 11 = .ok (.aload_n 0, 1) := by decide +kernel
theorem dL_schedules_12 : decode cL_schedules 12 = .ok (.invokevirtual 94, 3) := by decide +kernel
theorem dL_schedules_15 : decode cL_schedules 15 = .ok (.istore 5, 2) := by decide +kernel
theorem dL_schedules_17 : decode cL_schedules 17 = .ok (.aload_n 0, 1) := by decide +kernel
theorem dL_schedules_18 : decode cL_schedules 18 = .ok (.bipush 100, 2) := by decide +kernel
theorem dL_schedules_20 : decode cL_schedules 20 = .ok (.invokevirtual 103, 3) := by decide +kernel
theorem dL_schedules_23 : decode cL_schedules 23 = .ok (.pop, 1) := by decide +kernel
theorem dL_schedules_24 : decode cL_schedules 24 = .ok (.aload_n 0, 1) := by decide +kernel
theorem dL_schedules_25 : decode cL_schedules 25 = .ok (.iload_n 3, 1) := by decide +kernel
theorem dL_schedules_26 : decode cL_schedules 26 = .ok (.bipush 60, 2) := by decide +kernel
theorem dL_schedules_28 : decode cL_schedules 28 = .ok (.irem, 1) := by decide +kernel
theorem dL_schedules_29 : decode cL_schedules 29 = .ok (.invokestatic 112, 3) := by decide +kernel
theorem dL_schedules_32 : decode cL_schedules 32 = .ok (.aload_n 0, 1) := by decide +kernel
theorem dL_schedules_33 : decode cL_schedules 33 = .ok (.bipush 64, 2) := by decide +kernel
theorem dL_schedules_35 : decode cL_schedules 35 = .ok (.invokevirtual 103, 3) := by decide +kernel
theorem dL_schedules_38 : decode cL_schedules 38 = .ok (.pop, 1) := by decide +kernel
theorem dL_schedules_39 : decode cL_schedules 39 = .ok (.aload_n 0, 1) := by decide +kernel
theorem dL_schedules_40 : decode cL_schedules 40 = .ok (.iload 5, 2) := by decide +kernel
theorem dL_schedules_42 : decode cL_schedules 42 = .ok (.iconst 1, 1) := by decide +kernel
theorem dL_schedules_43 : decode cL_schedules 43 = .ok (.iadd, 1) := by decide +kernel
theorem dL_schedules_44 : decode cL_schedules 44 = .ok (.iload_n 3, 1) := by decide +kernel
theorem dL_schedules_45 : decode cL_schedules 45 = .ok (.bipush 6, 2) := by decide +kernel
theorem dL_schedules_47 : decode cL_schedules 47 = .ok (.ishr, 1) := by decide +kernel
theorem dL_schedules_48 : decode cL_schedules 48 = .ok (.bipush 20, 2) := by decide +kernel
theorem dL_schedules_50 : decode cL_schedules 50 = .ok (.irem, 1) := by decide +kernel
theorem dL_schedules_51 : decode cL_schedules 51 = .ok (.iadd, 1) := by decide +kernel
theorem dL_schedules_52 : decode cL_schedules 52 = .ok (.invokestatic 112, 3) := by decide +kernel
theorem dL_schedules_55 : decode cL_schedules 55 = .ok (.aload_n 0, 1) := by decide +kernel
theorem dL_schedules_56 : decode cL_schedules 56 = .ok (.bipush 59, 2) := by decide +kernel
theorem dL_schedules_58 : decode cL_schedules 58 = .ok (.invokevirtual 103, 3) := by decide +kernel
theorem dL_schedules_61 : decode cL_schedules 61 = .ok (.pop, 1) := by decide +kernel
theorem dL_schedules_62 : decode cL_schedules 62 = .ok (.aload_n 0, 1) := by decide +kernel
theorem dL_schedules_63 : decode cL_schedules 63 = .ok (.iload_n 3, 1) := by decide +kernel
theorem dL_schedules_64 : decode cL_schedules 64 = .ok (.bipush 64, 2) := by decide +kernel
theorem dL_schedules_66 : decode cL_schedules 66 = .ok (.iand, 1) := by decide +kernel
theorem dL_schedules_67 : decode cL_schedules 67 = .ok (.ifCond .ne 8, 3) := by decide +kernel
theorem dL_schedules_70 : decode cL_schedules 70 = .ok (.bipush 114, 2) := by decide +kernel
theorem dL_schedules_72 : decode cL_schedules 72 = .ok (.goto 5, 3) := by decide +kernel
theorem dL_schedules_75 : decode cL_schedules 75 = .ok (.bipush 99, 2) := by decide +kernel
theorem dL_schedules_77 : decode cL_schedules 77 = .ok (.invokevirtual 103, 3) := by decide +kernel
theorem dL_schedules_80 : decode cL_schedules 80 = .ok (.pop, 1) := by decide +kernel
theorem dL_schedules_81 : decode cL_schedules 81 = .ok (.aload_n 0, 1) := by decide +kernel
theorem dL_schedules_82 : decode cL_schedules 82 = .ok (.iload_n 3, 1) := by decide +kernel
theorem dL_schedules_83 : decode cL_schedules 83 = .ok (.bipush 7, 2) := by decide +kernel
theorem dL_schedules_85 : decode cL_schedules 85 = .ok (.ishr, 1) := by decide +kernel
theorem dL_schedules_86 : decode cL_schedules 86 = .ok (.bipush 60, 2) := by decide +kernel
theorem dL_schedules_88 : decode cL_schedules 88 = .ok (.iload_n 1, 1) := by decide +kernel
theorem dL_schedules_89 : decode cL_schedules 89 = .ok (.iload_n 2, 1) := by decide +kernel
theorem dL_schedules_90 : decode cL_schedules 90 = .ok (.imul, 1) := by decide +kernel
theorem dL_schedules_91 : decode cL_schedules 91 = .ok (.idiv, 1) := by decide +kernel
theorem dL_schedules_92 : decode cL_schedules 92 = .ok (.irem, 1) := by decide +kernel
theorem dL_schedules_93 : decode cL_schedules 93 = .ok (.invokestatic 112, 3) := by decide +kernel
theorem dL_schedules_96 : decode cL_schedules 96 = .ok (.aload_n 0, 1) := by decide +kernel
theorem dL_schedules_97 : decode cL_schedules 97 = .ok (.bipush 46, 2) := by decide +kernel
theorem dL_schedules_99 : decode cL_schedules 99 = .ok (.invokevirtual 103, 3) := by decide +kernel
theorem dL_schedules_102 : decode cL_schedules 102 = .ok (.pop, 1) := by decide +kernel
theorem dL_schedules_103 : decode cL_schedules 103 = .ok (.aload_n 0, 1) := by decide +kernel
theorem dL_schedules_104 : decode cL_schedules 104 = .ok (.iload_n 3, 1) := by decide +kernel
theorem dL_schedules_105 : decode cL_schedules 105 = .ok (.bipush 12, 2) := by decide +kernel
theorem dL_schedules_107 : decode cL_schedules 107 = .ok (.ishr, 1) := by decide +kernel
theorem dL_schedules_108 : decode cL_schedules 108 = .ok (.iload_n 3, 1) := by decide +kernel
theorem dL_schedules_109 : decode cL_schedules 109 = .ok (.bipush 64, 2) := by decide +kernel
theorem dL_schedules_111 : decode cL_schedules 111 = .ok (.iand, 1) := by decide +kernel
theorem dL_schedules_112 : decode cL_schedules 112 = .ok (.ifCond .ne 7, 3) := by decide +kernel
theorem dL_schedules_115 : decode cL_schedules 115 = .ok (.iload_n 2, 1) := by decide +kernel
theorem dL_schedules_116 : decode cL_schedules 116 = .ok (.goto 4, 3) := by decide +kernel
theorem dL_schedules_119 : decode cL_schedules 119 = .ok (.iload_n 1, 1) := by decide +kernel
theorem dL_schedules_120 : decode cL_schedules 120 = .ok (.irem, 1) := by decide +kernel
theorem dL_schedules_121 : decode cL_schedules 121 = .ok (.invokestatic 112, 3) := by decide +kernel
theorem dL_schedules_124 : decode cL_schedules 124 = .ok (.aload_n 0, 1) := by decide +kernel
theorem dL_schedules_125 : decode cL_schedules 125 = .ok (.bipush 64, 2) := by decide +kernel
theorem dL_schedules_127 : decode cL_schedules 127 = .ok (.invokevirtual 103, 3) := by decide +kernel
theorem dL_schedules_130 : decode cL_schedules 130 = .ok (.pop, 1) := by decide +kernel
theorem dL_schedules_131 : decode cL_schedules 131 = .ok (.aload_n 0, 1) := by decide +kernel
theorem dL_schedules_132 : decode cL_schedules 132 = .ok (.iload 5, 2) := by decide +kernel
theorem dL_schedules_134 : decode cL_schedules 134 = .ok (.iload_n 3, 1) := by decide +kernel
theorem dL_schedules_135 : decode cL_schedules 135 = .ok (.bipush 16, 2) := by decide +kernel
theorem dL_schedules_137 : decode cL_schedules 137 = .ok (.ishr, 1) := by decide +kernel
theorem dL_schedules_138 : decode cL_schedules 138 = .ok (.bipush 15, 2) := by decide +kernel
theorem dL_schedules_140 : decode cL_schedules 140 = .ok (.irem, 1) := by decide +kernel
theorem dL_schedules_141 : decode cL_schedules 141 = .ok (.iadd, 1) := by decide +kernel
theorem dL_schedules_142 : decode cL_schedules 142 = .ok (.invokestatic 112, 3) := by decide +kernel
theorem dL_schedules_145 : decode cL_schedules 145 = .ok (.aload_n 0, 1) := by decide +kernel
theorem dL_schedules_146 : decode cL_schedules 146 = .ok (.bipush 59, 2) := by decide +kernel
theorem dL_schedules_148 : decode cL_schedules 148 = .ok (.invokevirtual 103, 3) := by decide +kernel
theorem dL_schedules_151 : decode cL_schedules 151 = .ok (.istore 6, 2) := by decide +kernel
theorem dL_schedules_153 : decode cL_schedules 153 = .ok (.aload_n 0, 1) := by decide +kernel
theorem dL_schedules_154 : decode cL_schedules 154 = .ok (.invokevirtual 118, 3) := by decide +kernel
theorem dL_schedules_157 : decode cL_schedules 157 = .ok (.sipush (-1004), 3) := by decide +kernel
theorem dL_schedules_160 : decode cL_schedules 160 = .ok (.if_icmp .ne 7, 3) := by decide +kernel
theorem dL_schedules_163 : decode cL_schedules 163 = .ok (.iconst 1, 1) := by decide +kernel
theorem dL_schedules_164 : decode cL_schedules 164 = .ok (.goto 4, 3) := by decide +kernel
theorem dL_schedules_167 : decode cL_schedules 167 = .ok (.iconst 0, 1) := by decide +kernel
theorem dL_schedules_168 : decode cL_schedules 168 = .ok (.istore 7, 2) := by decide +kernel
theorem dL_schedules_170 : decode cL_schedules 170 = .ok (.aload_n 0, 1) := by decide +kernel
theorem dL_schedules_171 : decode cL_schedules 171 = .ok (.invokevirtual 121, 3) := by decide +kernel
theorem dL_schedules_174 : decode cL_schedules 174 = .ok (.istore 8, 2) := by decide +kernel
theorem dL_schedules_176 : decode cL_schedules 176 = .ok (.iload_n 3, 1) := by decide +kernel
theorem dL_schedules_177 : decode cL_schedules 177 = .ok (.bipush 16, 2) := by decide +kernel
theorem dL_schedules_179 : decode cL_schedules 179 = .ok (.ishr, 1) := by decide +kernel
theorem dL_schedules_180 : decode cL_schedules 180 = .ok (.bipush 15, 2) := by decide +kernel
theorem dL_schedules_182 : decode cL_schedules 182 = .ok (.irem, 1) := by decide +kernel
theorem dL_schedules_183 : decode cL_schedules 183 = .ok (.ifCond .ne 7, 3) := by decide +kernel
theorem dL_schedules_186 : decode cL_schedules 186 = .ok (.iconst 1, 1) := by decide +kernel
theorem dL_schedules_187 : decode cL_schedules 187 = .ok (.goto 4, 3) := by decide +kernel
theorem dL_schedules_190 : decode cL_schedules 190 = .ok (.iconst 0, 1) := by decide +kernel
theorem dL_schedules_191 : decode cL_schedules 191 = .ok (.istore 9, 2) := by decide +kernel
theorem dL_schedules_193 : decode cL_schedules 193 = .ok (.iload 7, 2) := by decide +kernel
theorem dL_schedules_195 : decode cL_schedules 195 = .ok (.ifCond .eq 68, 3) := by decide +kernel
theorem dL_schedules_198 : decode cL_schedules 198 = .ok (.iload 9, 2) := by decide +kernel
theorem dL_schedules_200 : decode cL_schedules 200 = .ok (.ifCond .eq 14, 3) := by decide +kernel
theorem dL_schedules_203 : decode cL_schedules 203 = .ok (.iload 8, 2) := by decide +kernel
theorem dL_schedules_205 : decode cL_schedules 205 = .ok (.sipush (-1001), 3) := by decide +kernel
theorem dL_schedules_208 : decode cL_schedules 208 = .ok (.if_icmp .ne 55, 3) := by decide +kernel
theorem dL_schedules_211 : decode cL_schedules 211 = .ok (.goto 27, 3) := by decide +kernel
theorem dL_schedules_214 : decode cL_schedules 214 = .ok (.iload 4, 2) := by decide +kernel
theorem dL_schedules_216 : decode cL_schedules 216 = .ok (.bipush 22, 2) := by decide +kernel
theorem dL_schedules_218 : decode cL_schedules 218 = .ok (.if_icmp .le 14, 3) := by decide +kernel
theorem dL_schedules_221 : decode cL_schedules 221 = .ok (.iload 8, 2) := by decide +kernel
theorem dL_schedules_223 : decode cL_schedules 223 = .ok (.sipush (-1002), 3) := by decide +kernel
theorem dL_schedules_226 : decode cL_schedules 226 = .ok (.if_icmp .ne 37, 3) := by decide +kernel
theorem dL_schedules_229 : decode cL_schedules 229 = .ok (.goto 9, 3) := by decide +kernel
theorem dL_schedules_232 : decode cL_schedules 232 = .ok (.iload 8, 2) := by decide +kernel
theorem dL_schedules_234 : decode cL_schedules 234 = .ok (.iconst 2, 1) := by decide +kernel
theorem dL_schedules_235 : decode cL_schedules 235 = .ok (.if_icmp .ne 28, 3) := by decide +kernel
theorem dL_schedules_238 : decode cL_schedules 238 = .ok (.aload_n 0, 1) := by decide +kernel
theorem dL_schedules_239 : decode cL_schedules 239 = .ok (.invokevirtual 109, 3) := by decide +kernel
theorem dL_schedules_242 : decode cL_schedules 242 = .ok (.iload 4, 2) := by decide +kernel
theorem dL_schedules_244 : decode cL_schedules 244 = .ok (.iload 8, 2) := by decide +kernel
theorem dL_schedules_246 : decode cL_schedules 246 = .ok (.iconst 2, 1) := by decide +kernel
theorem dL_schedules_247 : decode cL_schedules 247 = .ok (.if_icmp .ne 7, 3) := by decide +kernel
theorem dL_schedules_250 : decode cL_schedules 250 = .ok (.iconst 2, 1) := by decide +kernel
theorem dL_schedules_251 : decode cL_schedules 251 = .ok (.goto 4, 3) := by decide +kernel
theorem dL_schedules_254 : decode cL_schedules 254 = .ok (.iconst 0, 1) := by decide +kernel
theorem dL_schedules_255 : decode cL_schedules 255 = .ok (.iadd, 1) := by decide +kernel
theorem dL_schedules_256 : decode cL_schedules 256 = .ok (.if_icmp .ne 7, 3) := by decide +kernel
theorem dL_schedules_259 : decode cL_schedules 259 = .ok (.iconst 1, 1) := by decide +kernel
theorem dL_schedules_260 : decode cL_schedules 260 = .ok (.goto 4, 3) := by decide +kernel
theorem dL_schedules_263 : decode cL_schedules 263 = .ok (.iconst 0, 1) := by decide +kernel
theorem dL_schedules_264 : decode cL_schedules 264 = .ok (.istore 7, 2) := by decide +kernel
theorem dL_schedules_266 : decode cL_schedules 266 = .ok (.aload_n 0, 1) := by decide +kernel
theorem dL_schedules_267 : decode cL_schedules 267 = .ok (.bipush 120, 2) := by decide +kernel
theorem dL_schedules_269 : decode cL_schedules 269 = .ok (.invokevirtual 103, 3) := by decide +kernel
theorem dL_schedules_272 : decode cL_schedules 272 = .ok (.pop, 1) := by decide +kernel
theorem dL_schedules_273 : decode cL_schedules 273 = .ok (.iload 7, 2) := by decide +kernel
theorem dL_schedules_275 : decode cL_schedules 275 = .ok (.ifCond .eq 26, 3) := by decide +kernel
theorem dL_schedules_278 : decode cL_schedules 278 = .ok (.aload_n 0, 1) := by decide +kernel
theorem dL_schedules_279 : decode cL_schedules 279 = .ok (.invokevirtual 118, 3) := by decide +kernel
theorem dL_schedules_282 : decode cL_schedules 282 = .ok (.iload 6, 2) := by decide +kernel
theorem dL_schedules_284 : decode cL_schedules 284 = .ok (.if_icmp .ne 17, 3) := by decide +kernel
theorem dL_schedules_287 : decode cL_schedules 287 = .ok (.aload_n 0, 1) := by decide +kernel
theorem dL_schedules_288 : decode cL_schedules 288 = .ok (.invokevirtual 121, 3) := by decide +kernel
theorem dL_schedules_291 : decode cL_schedules 291 = .ok (.sipush (-1003), 3) := by decide +kernel
theorem dL_schedules_294 : decode cL_schedules 294 = .ok (.if_icmp .ne 7, 3) := by decide +kernel
theorem dL_schedules_297 : decode cL_schedules 297 = .ok (.iconst 1, 1) := by decide +kernel
theorem dL_schedules_298 : decode cL_schedules 298 = .ok (.goto 4, 3) := by decide +kernel
theorem dL_schedules_301 : decode cL_schedules 301 = .ok (.iconst 0, 1) := by decide +kernel
theorem dL_schedules_302 : decode cL_schedules 302 = .ok (.ireturn, 1) := by decide +kernel
theorem dL_refuses_0 : decode cL_refuses 0 = .ok (.aload_n 0, 1) := by decide +kernel
theorem dL_refuses_1 : decode cL_refuses 1 = .ok (.invokevirtual 78, 3) := by decide +kernel
theorem dL_refuses_4 : decode cL_refuses 4 = .ok (.lstore_n 1, 1) := by decide +kernel
theorem dL_refuses_5 : decode cL_refuses 5 = .ok (.aload_n 0, 1) := by decide +kernel
theorem dL_refuses_6 : decode cL_refuses 6 = .ok (.iconst (-1), 1) := by decide +kernel
theorem dL_refuses_7 : decode cL_refuses 7 = .ok (.invokevirtual 62, 3) := by decide +kernel
theorem dL_refuses_10 : decode cL_refuses 10 = .ok (.sipush (-1001), 3) := by decide +kernel
theorem dL_refuses_13 : decode cL_refuses 13 = .ok (.if_icmp .ne 67, 3) := by decide +kernel
theorem dL_refuses_16 : decode cL_refuses 16 = .ok (.aload_n 0, 1) := by decide +kernel
theorem dL_refuses_17 : decode cL_refuses 17 = .ok (.sipush 1000, 3) := by decide +kernel
theorem dL_refuses_20 : decode cL_refuses 20 = .ok (.invokevirtual 62, 3) := by decide +kernel
theorem dL_refuses_23 : decode cL_refuses 23 = .ok (.sipush (-1001), 3) := by decide +kernel
theorem dL_refuses_26 : decode cL_refuses 26 = .ok (.if_icmp .ne 54, 3) := by decide +kernel
theorem dL_refuses_29 : decode cL_refuses 29 = .ok (.aload_n 0, 1) := by decide +kernel
theorem dL_refuses_30 : decode cL_refuses 30 = .ok (.iconst 0, 1) := by decide +kernel
theorem dL_refuses_31 : decode cL_refuses 31 = .ok (.invokevirtual 97, 3) := by decide +kernel
theorem dL_refuses_34 : decode cL_refuses 34 = .ok (.sipush (-1001), 3) := by decide +kernel
theorem dL_refuses_37 : decode cL_refuses 37 = .ok (.if_icmp .ne 43, 3) := by decide +kernel
theorem dL_refuses_40 : decode cL_refuses 40 = .ok (.aload_n 0, 1) := by decide +kernel
theorem dL_refuses_41 : decode cL_refuses 41 = .ok (.sipush 501, 3) := by decide +kernel
theorem dL_refuses_44 : decode cL_refuses 44 = .ok (.invokevirtual 97, 3) := by decide +kernel
theorem dL_refuses_47 : decode cL_refuses 47 = .ok (.sipush (-1001), 3) := by decide +kernel
theorem dL_refuses_50 : decode cL_refuses 50 = .ok (.if_icmp .ne 30, 3) := by decide +kernel
theorem dL_refuses_53 : decode cL_refuses 53 = .ok (.aload_n 0, 1) := by decide +kernel
theorem dL_refuses_54 : decode cL_refuses 54 = .ok (.iconst 3, 1) := by decide +kernel
theorem dL_refuses_55 : decode cL_refuses 55 = .ok (.invokevirtual 124, 3) := by decide +kernel
theorem dL_refuses_58 : decode cL_refuses 58 = .ok (.sipush (-1001), 3) := by decide +kernel
theorem dL_refuses_61 : decode cL_refuses 61 = .ok (.if_icmp .ne 19, 3) := by decide +kernel
theorem dL_refuses_64 : decode cL_refuses 64 = .ok (.aload_n 0, 1) := by decide +kernel
theorem dL_refuses_65 : decode cL_refuses 65 = .ok (.iconst 1, 1) := by decide +kernel
theorem dL_refuses_66 : decode cL_refuses 66 = .ok (.iconst 1, 1) := by decide +kernel
theorem dL_refuses_67 : decode cL_refuses 67 = .ok (.invokevirtual 127, 3) := by decide +kernel
theorem dL_refuses_70 : decode cL_refuses 70 = .ok (.sipush (-1001), 3) := by decide +kernel
theorem dL_refuses_73 : decode cL_refuses 73 = .ok (.if_icmp .ne 7, 3) := by decide +kernel
theorem dL_refuses_76 : decode cL_refuses 76 = .ok (.iconst 1, 1) := by decide +kernel
theorem dL_refuses_77 : decode cL_refuses 77 = .ok (.goto 4, 3) := by decide +kernel
theorem dL_refuses_80 : decode cL_refuses 80 = .ok (.iconst 0, 1) := by decide +kernel
theorem dL_refuses_81 : decode cL_refuses 81 = .ok (.istore_n 3, 1) := by decide +kernel
theorem dL_refuses_82 : decode cL_refuses 82 = .ok (.iload_n 3, 1) := by decide +kernel
theorem dL_refuses_83 : decode cL_refuses 83 = .ok (.ifCond .eq 78, 3) := by decide +kernel
theorem dL_refuses_86 : decode cL_refuses 86 = .ok (.aload_n 0, 1) := by decide +kernel
theorem dL_refuses_87 : decode cL_refuses 87 = .ok (.iconst 0, 1) := by decide +kernel
theorem dL_refuses_88 : decode cL_refuses 88 = .ok (.invokevirtual 131, 3) := by decide +kernel
theorem dL_refuses_91 : decode cL_refuses 91 = .ok (.sipush (-1001), 3) := by decide +kernel
theorem dL_refuses_94 : decode cL_refuses 94 = .ok (.if_icmp .ne 67, 3) := by decide +kernel
theorem dL_refuses_97 : decode cL_refuses 97 = .ok (.aload_n 0, 1) := by decide +kernel
theorem dL_refuses_98 : decode cL_refuses 98 = .ok (.bipush 101, 2) := by decide +kernel
theorem dL_refuses_100 : decode cL_refuses 100 = .ok (.invokevirtual 134, 3) := by decide +kernel
theorem dL_refuses_103 : decode cL_refuses 103 = .ok (.sipush (-1001), 3) := by decide +kernel
theorem dL_refuses_106 : decode cL_refuses 106 = .ok (.if_icmp .ne 55, 3) := by decide +kernel
theorem dL_refuses_109 : decode cL_refuses 109 = .ok (.aload_n 0, 1) := by decide +kernel
theorem dL_refuses_110 : decode cL_refuses 110 = .ok (.iconst 2, 1) := by decide +kernel
theorem dL_refuses_111 : decode cL_refuses 111 = .ok (.invokevirtual 91, 3) := by decide +kernel
theorem dL_refuses_114 : decode cL_refuses 114 = .ok (.sipush (-1001), 3) := by decide +kernel
theorem dL_refuses_117 : decode cL_refuses 117 = .ok (.if_icmp .ne 44, 3) := by decide +kernel
theorem dL_refuses_120 : decode cL_refuses 120 = .ok (.aload_n 0, 1) := by decide +kernel
theorem dL_refuses_121 : decode cL_refuses 121 = .ok (.iconst (-1), 1) := by decide +kernel
theorem dL_refuses_122 : decode cL_refuses 122 = .ok (.invokevirtual 100, 3) := by decide +kernel
theorem dL_refuses_125 : decode cL_refuses 125 = .ok (.sipush (-1001), 3) := by decide +kernel
theorem dL_refuses_128 : decode cL_refuses 128 = .ok (.if_icmp .ne 33, 3) := by decide +kernel
theorem dL_refuses_131 : decode cL_refuses 131 = .ok (.aload_n 0, 1) := by decide +kernel
theorem dL_refuses_132 : decode cL_refuses 132 = .ok (.sipush 1001, 3) := by decide +kernel
theorem dL_refuses_135 : decode cL_refuses 135 = .ok (.invokevirtual 85, 3) := by decide +kernel
theorem dL_refuses_138 : decode cL_refuses 138 = .ok (.sipush (-1001), 3) := by decide +kernel
theorem dL_refuses_141 : decode cL_refuses 141 = .ok (.if_icmp .ne 20, 3) := by decide +kernel
theorem dL_refuses_144 : decode cL_refuses 144 = .ok (.aload_n 0, 1) := by decide +kernel
theorem dL_refuses_145 : decode cL_refuses 145 = .ok (.sipush 1000, 3) := by decide +kernel
theorem dL_refuses_148 : decode cL_refuses 148 = .ok (.invokevirtual 88, 3) := by decide +kernel
theorem dL_refuses_151 : decode cL_refuses 151 = .ok (.sipush (-1001), 3) := by decide +kernel
theorem dL_refuses_154 : decode cL_refuses 154 = .ok (.if_icmp .ne 7, 3) := by decide +kernel
theorem dL_refuses_157 : decode cL_refuses 157 = .ok (.iconst 1, 1) := by decide +kernel
theorem dL_refuses_158 : decode cL_refuses 158 = .ok (.goto 4, 3) := by decide +kernel
theorem dL_refuses_161 : decode cL_refuses 161 = .ok (.iconst 0, 1) := by decide +kernel
theorem dL_refuses_162 : decode cL_refuses 162 = .ok (.istore_n 3, 1) := by decide +kernel
theorem dL_refuses_163 : decode cL_refuses 163 = .ok (.iload_n 3, 1) := by decide +kernel
theorem dL_refuses_164 : decode cL_refuses 164 = .ok (.ifCond .eq 68, 3) := by decide +kernel
theorem dL_refuses_167 : decode cL_refuses 167 = .ok (.aload_n 0, 1) := by decide +kernel
theorem dL_refuses_168 : decode cL_refuses 168 = .ok (.invokevirtual 65, 3) := by decide +kernel
theorem dL_refuses_171 : decode cL_refuses 171 = .ok (.ifCond .lt 38, 3) := by decide +kernel
theorem dL_refuses_174 : decode cL_refuses 174 = .ok (.aload_n 0, 1) := by decide +kernel
theorem dL_refuses_175 : decode cL_refuses 175 = .ok (.bipush 8, 2) := by decide +kernel
theorem dL_refuses_177 : decode cL_refuses 177 = .ok (.invokevirtual 124, 3) := by decide +kernel
theorem dL_refuses_180 : decode cL_refuses 180 = .ok (.sipush (-1003), 3) := by decide +kernel
theorem dL_refuses_183 : decode cL_refuses 183 = .ok (.if_icmp .ne 49, 3) := by decide +kernel
theorem dL_refuses_186 : decode cL_refuses 186 = .ok (.aload_n 0, 1) := by decide +kernel
theorem dL_refuses_187 : decode cL_refuses 187 = .ok (.iconst 4, 1) := by decide +kernel
theorem dL_refuses_188 : decode cL_refuses 188 = .ok (.iconst 4, 1) := by decide +kernel
theorem dL_refuses_189 : decode cL_refuses 189 = .ok (.invokevirtual 137, 3) := by decide +kernel
theorem dL_refuses_192 : decode cL_refuses 192 = .ok (.sipush (-1003), 3) := by decide +kernel
theorem dL_refuses_195 : decode cL_refuses 195 = .ok (.if_icmp .ne 37, 3) := by decide +kernel
theorem dL_refuses_198 : decode cL_refuses 198 = .ok (.aload_n 0, 1) := by decide +kernel
theorem dL_refuses_199 : decode cL_refuses 199 = .ok (.iconst 3, 1) := by decide +kernel
theorem dL_refuses_200 : decode cL_refuses 200 = .ok (.invokevirtual 140, 3) := by decide +kernel
theorem dL_refuses_203 : decode cL_refuses 203 = .ok (.sipush (-1003), 3) := by decide +kernel
theorem dL_refuses_206 : decode cL_refuses 206 = .ok (.if_icmp .ne 26, 3) := by decide +kernel
theorem dL_refuses_209 : decode cL_refuses 209 = .ok (.aload_n 0, 1) := by decide +kernel
theorem dL_refuses_210 : decode cL_refuses 210 = .ok (.invokevirtual 9, 3) := by decide +kernel
theorem dL_refuses_213 : decode cL_refuses 213 = .ok (.iconst 1, 1) := by decide +kernel
theorem dL_refuses_214 : decode cL_refuses 214 = .ok (.if_icmp .lt 14, 3) := by decide +kernel
theorem dL_refuses_217 : decode cL_refuses 217 = .ok (.aload_n 0, 1) := by decide +kernel
theorem dL_refuses_218 : decode cL_refuses 218 = .ok (.iconst 0, 1) := by decide +kernel
theorem dL_refuses_219 : decode cL_refuses 219 = .ok (.invokevirtual 88, 3) := by decide +kernel
theorem dL_refuses_222 : decode cL_refuses 222 = .ok (.sipush (-1003), 3) := by decide +kernel
theorem dL_refuses_225 : decode cL_refuses 225 = .ok (.if_icmp .ne 7, 3) := by decide +kernel
theorem dL_refuses_228 : decode cL_refuses 228 = .ok (.iconst 1, 1) := by decide +kernel
theorem dL_refuses_229 : decode cL_refuses 229 = .ok (.goto 4, 3) := by decide +kernel
theorem dL_refuses_232 : decode cL_refuses 232 = .ok (.iconst 0, 1) := by decide +kernel
theorem dL_refuses_233 : decode cL_refuses 233 = .ok (.istore_n 3, 1) := by decide +kernel
theorem dL_refuses_234 : decode cL_refuses 234 = .ok (.iload_n 3, 1) := by decide +kernel
theorem dL_refuses_235 : decode cL_refuses 235 = .ok (.ifCond .eq 16, 3) := by decide +kernel
theorem dL_refuses_238 : decode cL_refuses 238 = .ok (.aload_n 0, 1) := by decide +kernel
theorem dL_refuses_239 : decode cL_refuses 239 = .ok (.invokevirtual 78, 3) := by decide +kernel
theorem dL_refuses_242 : decode cL_refuses 242 = .ok (.lload_n 1, 1) := by decide +kernel
theorem dL_refuses_243 : decode cL_refuses 243 = .ok (.lcmp, 1) := by decide +kernel
theorem dL_refuses_244 : decode cL_refuses 244 = .ok (.ifCond .ne 7, 3) := by decide +kernel
theorem dL_refuses_247 : decode cL_refuses 247 = .ok (.iconst 1, 1) := by decide +kernel
theorem dL_refuses_248 : decode cL_refuses 248 = .ok (.goto 4, 3) := by decide +kernel
theorem dL_refuses_251 : decode cL_refuses 251 = .ok (.iconst 0, 1) := by decide +kernel
theorem dL_refuses_252 : decode cL_refuses 252 = .ok (.ireturn, 1) := by decide +kernel
theorem dL_law_0 : decode cL_law 0 = .ok (.new 10, 3) := by decide +kernel
theorem dL_law_3 : decode cL_law 3 = .ok (.dup, 1) := by decide +kernel
theorem dL_law_4 : decode cL_law 4 = .ok (.invokespecial 143, 3) := by decide +kernel
theorem dL_law_7 : decode cL_law 7 = .ok (.astore_n 1, 1) := by decide +kernel
theorem dL_law_8 : decode cL_law 8 = .ok (.aload_n 0, 1) := by decide +kernel
theorem dL_law_9 : decode cL_law 9 = .ok (.iconst 0, 1) := by decide +kernel
theorem dL_law_10 : decode cL_law 10 = .ok (.invokestatic 144, 3) := by decide +kernel
theorem dL_law_13 : decode cL_law 13 = .ok (.istore_n 2, 1) := by decide +kernel
theorem dL_law_14 : decode cL_law 14 = .ok (.iconst 4, 1) := by decide +kernel
theorem dL_law_15 : decode cL_law 15 = .ok (.iload_n 2, 1) := by decide +kernel
theorem dL_law_16 : decode cL_law 16 = .ok (.bipush 13, 2) := by decide +kernel
theorem dL_law_18 : decode cL_law 18 = .ok (.irem, 1) := by decide +kernel
theorem dL_law_19 : decode cL_law 19 = .ok (.iadd, 1) := by decide +kernel
theorem dL_law_20 : decode cL_law 20 = .ok (.istore_n 3, 1) := by decide +kernel
theorem dL_law_21 : decode cL_law 21 = .ok (.iconst 2, 1) := by decide +kernel
theorem dL_law_22 : decode cL_law 22 = .ok (.iload_n 2, 1) := by decide +kernel
theorem dL_law_23 : decode cL_law 23 = .ok (.iconst 4, 1) := by decide +kernel
theorem dL_law_24 : decode cL_law 24 = .ok (.ishr, 1) := by decide +kernel
theorem dL_law_25 : decode cL_law 25 = .ok (.iconst 5, 1) := by decide +kernel
theorem dL_law_26 : decode cL_law 26 = .ok (.irem, 1) := by decide +kernel
theorem dL_law_27 : decode cL_law 27 = .ok (.iadd, 1) := by decide +kernel
theorem dL_law_28 : decode cL_law 28 = .ok (.istore 4, 2) := by decide +kernel
theorem dL_law_30 : decode cL_law 30 = .ok (.iconst 2, 1) := by decide +kernel
theorem dL_law_31 : decode cL_law 31 = .ok (.iload_n 2, 1) := by decide +kernel
theorem dL_law_32 : decode cL_law 32 = .ok (.bipush 7, 2) := by decide +kernel
theorem dL_law_34 : decode cL_law 34 = .ok (.ishr, 1) := by decide +kernel
theorem dL_law_35 : decode cL_law 35 = .ok (.iconst 5, 1) := by decide +kernel
theorem dL_law_36 : decode cL_law 36 = .ok (.irem, 1) := by decide +kernel
theorem dL_law_37 : decode cL_law 37 = .ok (.iadd, 1) := by decide +kernel
theorem dL_law_38 : decode cL_law 38 = .ok (.istore 5, 2) := by decide +kernel
theorem dL_law_40 : decode cL_law 40 = .ok (.aload_n 1, 1) := by decide +kernel
theorem dL_law_41 : decode cL_law 41 = .ok (.iconst 0, 1) := by decide +kernel
theorem dL_law_42 : decode cL_law 42 = .ok (.invokevirtual 100, 3) := by decide +kernel
theorem dL_law_45 : decode cL_law 45 = .ok (.sipush (-1003), 3) := by decide +kernel
theorem dL_law_48 : decode cL_law 48 = .ok (.if_icmp .ne 56, 3) := by decide +kernel
theorem dL_law_51 : decode cL_law 51 = .ok (.aload_n 1, 1) := by decide +kernel
theorem dL_law_52 : decode cL_law 52 = .ok (.invokevirtual 65, 3) := by decide +kernel
theorem dL_law_55 : decode cL_law 55 = .ok (.sipush (-1004), 3) := by decide +kernel
theorem dL_law_58 : decode cL_law 58 = .ok (.if_icmp .ne 46, 3) := by decide +kernel
theorem dL_law_61 : decode cL_law 61 = .ok (.aload_n 1, 1) := by decide +kernel
theorem dL_law_62 : decode cL_law 62 = .ok (.iload_n 3, 1) := by decide +kernel
theorem dL_law_63 : decode cL_law 63 = .ok (.invokevirtual 124, 3) := by decide +kernel
theorem dL_law_66 : decode cL_law 66 = .ok (.bipush 8, 2) := by decide +kernel
theorem dL_law_68 : decode cL_law 68 = .ok (.if_icmp .ne 36, 3) := by decide +kernel
theorem dL_law_71 : decode cL_law 71 = .ok (.aload_n 1, 1) := by decide +kernel
theorem dL_law_72 : decode cL_law 72 = .ok (.iload 4, 2) := by decide +kernel
theorem dL_law_74 : decode cL_law 74 = .ok (.iload 5, 2) := by decide +kernel
theorem dL_law_76 : decode cL_law 76 = .ok (.invokevirtual 137, 3) := by decide +kernel
theorem dL_law_79 : decode cL_law 79 = .ok (.bipush 44, 2) := by decide +kernel
theorem dL_law_81 : decode cL_law 81 = .ok (.if_icmp .ne 23, 3) := by decide +kernel
theorem dL_law_84 : decode cL_law 84 = .ok (.aload_n 1, 1) := by decide +kernel
theorem dL_law_85 : decode cL_law 85 = .ok (.iload_n 2, 1) := by decide +kernel
theorem dL_law_86 : decode cL_law 86 = .ok (.bipush 10, 2) := by decide +kernel
theorem dL_law_88 : decode cL_law 88 = .ok (.ishr, 1) := by decide +kernel
theorem dL_law_89 : decode cL_law 89 = .ok (.bipush 40, 2) := by decide +kernel
theorem dL_law_91 : decode cL_law 91 = .ok (.irem, 1) := by decide +kernel
theorem dL_law_92 : decode cL_law 92 = .ok (.invokevirtual 140, 3) := by decide +kernel
theorem dL_law_95 : decode cL_law 95 = .ok (.bipush 16, 2) := by decide +kernel
theorem dL_law_97 : decode cL_law 97 = .ok (.if_icmp .ne 7, 3) := by decide +kernel
theorem dL_law_100 : decode cL_law 100 = .ok (.iconst 1, 1) := by decide +kernel
theorem dL_law_101 : decode cL_law 101 = .ok (.goto 4, 3) := by decide +kernel
theorem dL_law_104 : decode cL_law 104 = .ok (.iconst 0, 1) := by decide +kernel
theorem dL_law_105 : decode cL_law 105 = .ok (.istore 6, 2) := by decide +kernel
theorem dL_law_107 : decode cL_law 107 = .ok (.iload 6, 2) := by decide +kernel
theorem dL_law_109 : decode cL_law 109 = .ok (.ifCond .eq 70, 3) := by decide +kernel
theorem dL_law_112 : decode cL_law 112 = .ok (.aload_n 1, 1) := by decide +kernel
theorem dL_law_113 : decode cL_law 113 = .ok (.iconst 2, 1) := by decide +kernel
theorem dL_law_114 : decode cL_law 114 = .ok (.iload_n 2, 1) := by decide +kernel
theorem dL_law_115 : decode cL_law 115 = .ok (.bipush 16, 2) := by decide +kernel
theorem dL_law_117 : decode cL_law 117 = .ok (.ishr, 1) := by decide +kernel
theorem dL_law_118 : decode cL_law 118 = .ok (.bipush 31, 2) := by decide +kernel
theorem dL_law_120 : decode cL_law 120 = .ok (.irem, 1) := by decide +kernel
theorem dL_law_121 : decode cL_law 121 = .ok (.iadd, 1) := by decide +kernel
theorem dL_law_122 : decode cL_law 122 = .ok (.iconst 1, 1) := by decide +kernel
theorem dL_law_123 : decode cL_law 123 = .ok (.iload_n 2, 1) := by decide +kernel
theorem dL_law_124 : decode cL_law 124 = .ok (.bipush 21, 2) := by decide +kernel
theorem dL_law_126 : decode cL_law 126 = .ok (.ishr, 1) := by decide +kernel
theorem dL_law_127 : decode cL_law 127 = .ok (.sipush 200, 3) := by decide +kernel
theorem dL_law_130 : decode cL_law 130 = .ok (.irem, 1) := by decide +kernel
theorem dL_law_131 : decode cL_law 131 = .ok (.iadd, 1) := by decide +kernel
theorem dL_law_132 : decode cL_law 132 = .ok (.invokevirtual 127, 3) := by decide +kernel
theorem dL_law_135 : decode cL_law 135 = .ok (.sipush 16025, 3) := by decide +kernel
theorem dL_law_138 : decode cL_law 138 = .ok (.if_icmp .ne 41, 3) := by decide +kernel
theorem dL_law_141 : decode cL_law 141 = .ok (.aload_n 1, 1) := by decide +kernel
theorem dL_law_142 : decode cL_law 142 = .ok (.iconst 1, 1) := by decide +kernel
theorem dL_law_143 : decode cL_law 143 = .ok (.iload_n 2, 1) := by decide +kernel
theorem dL_law_144 : decode cL_law 144 = .ok (.bipush 12, 2) := by decide +kernel
theorem dL_law_146 : decode cL_law 146 = .ok (.ishr, 1) := by decide +kernel
theorem dL_law_147 : decode cL_law 147 = .ok (.bipush 100, 2) := by decide +kernel
theorem dL_law_149 : decode cL_law 149 = .ok (.irem, 1) := by decide +kernel
theorem dL_law_150 : decode cL_law 150 = .ok (.iadd, 1) := by decide +kernel
theorem dL_law_151 : decode cL_law 151 = .ok (.invokevirtual 131, 3) := by decide +kernel
theorem dL_law_154 : decode cL_law 154 = .ok (.bipush 90, 2) := by decide +kernel
theorem dL_law_156 : decode cL_law 156 = .ok (.if_icmp .ne 23, 3) := by decide +kernel
theorem dL_law_159 : decode cL_law 159 = .ok (.aload_n 1, 1) := by decide +kernel
theorem dL_law_160 : decode cL_law 160 = .ok (.iload_n 2, 1) := by decide +kernel
theorem dL_law_161 : decode cL_law 161 = .ok (.bipush 18, 2) := by decide +kernel
theorem dL_law_163 : decode cL_law 163 = .ok (.ishr, 1) := by decide +kernel
theorem dL_law_164 : decode cL_law 164 = .ok (.bipush 101, 2) := by decide +kernel
theorem dL_law_166 : decode cL_law 166 = .ok (.irem, 1) := by decide +kernel
theorem dL_law_167 : decode cL_law 167 = .ok (.invokevirtual 134, 3) := by decide +kernel
theorem dL_law_170 : decode cL_law 170 = .ok (.bipush 8, 2) := by decide +kernel
theorem dL_law_172 : decode cL_law 172 = .ok (.if_icmp .ne 7, 3) := by decide +kernel
theorem dL_law_175 : decode cL_law 175 = .ok (.iconst 1, 1) := by decide +kernel
theorem dL_law_176 : decode cL_law 176 = .ok (.goto 4, 3) := by decide +kernel
theorem dL_law_179 : decode cL_law 179 = .ok (.iconst 0, 1) := by decide +kernel
theorem dL_law_180 : decode cL_law 180 = .ok (.istore 6, 2) := by decide +kernel
theorem dL_law_182 : decode cL_law 182 = .ok (.iconst 0, 1) := by decide +kernel
theorem dL_law_183 : decode cL_law 183 = .ok (.istore 7, 2) := by decide +kernel
theorem dL_law_185 : decode cL_law 185 = .ok (.iload 7, 2) := by decide +kernel
theorem dL_law_187 : decode cL_law 187 = .ok (.bipush 18, 2) := by decide +kernel
theorem dL_law_189 : decode cL_law 189 = .ok (.if_icmp .ge 254, 3) := by decide +kernel
theorem dL_law_192 : decode cL_law 192 = .ok (.iload 6, 2) := by decide +kernel
theorem dL_law_194 : decode cL_law 194 = .ok (.ifCond .eq 249, 3) := by decide +kernel
theorem dL_law_197 : decode cL_law 197 = .ok (.aload_n 0, 1) := by decide +kernel
theorem dL_law_198 : decode cL_law 198 = .ok (.iload 7, 2) := by decide +kernel
theorem dL_law_200 : decode cL_law 200 = .ok (.iconst 1, 1) := by decide +kernel
theorem dL_law_201 : decode cL_law 201 = .ok (.iadd, 1) := by decide +kernel
theorem dL_law_202 : decode cL_law 202 = .ok (.invokestatic 144, 3) := by decide +kernel
theorem dL_law_205 : decode cL_law 205 = .ok (.istore 8, 2) := by decide +kernel
theorem dL_law_207 : decode cL_law 207 = .ok (.iload 8, 2) := by decide +kernel
theorem dL_law_209 : decode cL_law 209 = .ok (.bipush 7, 2) := by decide +kernel
theorem dL_law_211 : decode cL_law 211 = .ok (.iand, 1) := by decide +kernel
theorem dL_law_212 : decode cL_law 212 = .ok (.tableswitch 171 0 6 #[44, 44, 44, 65, 82, 141, 154], 44) := by decide +kernel
theorem dL_law_256 : decode cL_law 256 = .ok (.aload_n 1, 1) := by decide +kernel
theorem dL_law_257 : decode cL_law 257 = .ok (.iconst 2, 1) := by decide +kernel
theorem dL_law_258 : decode cL_law 258 = .ok (.iload 7, 2) := by decide +kernel
theorem dL_law_260 : decode cL_law 260 = .ok (.imul, 1) := by decide +kernel
theorem dL_law_261 : decode cL_law 261 = .ok (.iload 8, 2) := by decide +kernel
theorem dL_law_263 : decode cL_law 263 = .ok (.iconst 3, 1) := by decide +kernel
theorem dL_law_264 : decode cL_law 264 = .ok (.ishr, 1) := by decide +kernel
theorem dL_law_265 : decode cL_law 265 = .ok (.bipush 9, 2) := by decide +kernel
theorem dL_law_267 : decode cL_law 267 = .ok (.irem, 1) := by decide +kernel
theorem dL_law_268 : decode cL_law 268 = .ok (.iadd, 1) := by decide +kernel
theorem dL_law_269 : decode cL_law 269 = .ok (.invokestatic 148, 3) := by decide +kernel
theorem dL_law_272 : decode cL_law 272 = .ok (.istore 6, 2) := by decide +kernel
theorem dL_law_274 : decode cL_law 274 = .ok (.goto 143, 3) := by decide +kernel
theorem dL_law_277 : decode cL_law 277 = .ok (.aload_n 1, 1) := by decide +kernel
theorem dL_law_278 : decode cL_law 278 = .ok (.iload 4, 2) := by decide +kernel
theorem dL_law_280 : decode cL_law 280 = .ok (.iload 5, 2) := by decide +kernel
theorem dL_law_282 : decode cL_law 282 = .ok (.iload 8, 2) := by decide +kernel
theorem dL_law_284 : decode cL_law 284 = .ok (.iconst 3, 1) := by decide +kernel
theorem dL_law_285 : decode cL_law 285 = .ok (.ishr, 1) := by decide +kernel
theorem dL_law_286 : decode cL_law 286 = .ok (.invokestatic 152, 3) := by decide +kernel
theorem dL_law_289 : decode cL_law 289 = .ok (.istore 6, 2) := by decide +kernel
theorem dL_law_291 : decode cL_law 291 = .ok (.goto 126, 3) := by decide +kernel
theorem dL_law_294 : decode cL_law 294 = .ok (.aload_n 1, 1) := by decide +kernel
theorem dL_law_295 : decode cL_law 295 = .ok (.invokevirtual 44, 3) := by decide +kernel
theorem dL_law_298 : decode cL_law 298 = .ok (.istore 9, 2) := by decide +kernel
theorem dL_law_300 : decode cL_law 300 = .ok (.iconst 1, 1) := by decide +kernel
theorem dL_law_301 : decode cL_law 301 = .ok (.iload 8, 2) := by decide +kernel
theorem dL_law_303 : decode cL_law 303 = .ok (.iconst 3, 1) := by decide +kernel
theorem dL_law_304 : decode cL_law 304 = .ok (.ishr, 1) := by decide +kernel
theorem dL_law_305 : decode cL_law 305 = .ok (.bipush 40, 2) := by decide +kernel
theorem dL_law_307 : decode cL_law 307 = .ok (.irem, 1) := by decide +kernel
theorem dL_law_308 : decode cL_law 308 = .ok (.iadd, 1) := by decide +kernel
theorem dL_law_309 : decode cL_law 309 = .ok (.istore 10, 2) := by decide +kernel
theorem dL_law_311 : decode cL_law 311 = .ok (.aload_n 1, 1) := by decide +kernel
theorem dL_law_312 : decode cL_law 312 = .ok (.iload 10, 2) := by decide +kernel
theorem dL_law_314 : decode cL_law 314 = .ok (.invokevirtual 97, 3) := by decide +kernel
theorem dL_law_317 : decode cL_law 317 = .ok (.istore 11, 2) := by decide +kernel
theorem dL_law_319 : decode cL_law 319 = .ok (.iload 11, 2) := by decide +kernel
theorem dL_law_321 : decode cL_law 321 = .ok (.ifCond .lt 26, 3) := by decide +kernel
theorem dL_law_324 : decode cL_law 324 = .ok (.iload 11, 2) := by decide +kernel
theorem dL_law_326 : decode cL_law 326 = .ok (.iload 10, 2) := by decide +kernel
theorem dL_law_328 : decode cL_law 328 = .ok (.if_icmp .gt 19, 3) := by decide +kernel
theorem dL_law_331 : decode cL_law 331 = .ok (.aload_n 1, 1) := by decide +kernel
theorem dL_law_332 : decode cL_law 332 = .ok (.invokevirtual 44, 3) := by decide +kernel
theorem dL_law_335 : decode cL_law 335 = .ok (.iload 9, 2) := by decide +kernel
theorem dL_law_337 : decode cL_law 337 = .ok (.iload 11, 2) := by decide +kernel
theorem dL_law_339 : decode cL_law 339 = .ok (.iadd, 1) := by decide +kernel
theorem dL_law_340 : decode cL_law 340 = .ok (.if_icmp .ne 7, 3) := by decide +kernel
theorem dL_law_343 : decode cL_law 343 = .ok (.iconst 1, 1) := by decide +kernel
theorem dL_law_344 : decode cL_law 344 = .ok (.goto 4, 3) := by decide +kernel
theorem dL_law_347 : decode cL_law 347 = .ok (.iconst 0, 1) := by decide +kernel
theorem dL_law_348 : decode cL_law 348 = .ok (.istore 6, 2) := by decide +kernel
theorem dL_law_350 : decode cL_law 350 = .ok (.goto 67, 3) := by decide +kernel
theorem dL_law_353 : decode cL_law 353 = .ok (.aload_n 1, 1) := by decide +kernel
theorem dL_law_354 : decode cL_law 354 = .ok (.iload 8, 2) := by decide +kernel
theorem dL_law_356 : decode cL_law 356 = .ok (.iconst 3, 1) := by decide +kernel
theorem dL_law_357 : decode cL_law 357 = .ok (.ishr, 1) := by decide +kernel
theorem dL_law_358 : decode cL_law 358 = .ok (.invokestatic 156, 3) := by decide +kernel
theorem dL_law_361 : decode cL_law 361 = .ok (.istore 6, 2) := by decide +kernel
theorem dL_law_363 : decode cL_law 363 = .ok (.goto 54, 3) := by decide +kernel
theorem dL_law_366 : decode cL_law 366 = .ok (.aload_n 1, 1) := by decide +kernel
theorem dL_law_367 : decode cL_law 367 = .ok (.iload 4, 2) := by decide +kernel
theorem dL_law_369 : decode cL_law 369 = .ok (.iload 5, 2) := by decide +kernel
theorem dL_law_371 : decode cL_law 371 = .ok (.iload 8, 2) := by decide +kernel
theorem dL_law_373 : decode cL_law 373 = .ok (.iconst 3, 1) := by decide +kernel
theorem dL_law_374 : decode cL_law 374 = .ok (.ishr, 1) := by decide +kernel
theorem dL_law_375 : decode cL_law 375 = .ok (.invokestatic 159, 3) := by decide +kernel
theorem dL_law_378 : decode cL_law 378 = .ok (.istore 6, 2) := by decide +kernel
theorem dL_law_380 : decode cL_law 380 = .ok (.goto 37, 3) := by decide +kernel
theorem dL_law_383 : decode cL_law 383 = .ok (.aload_n 1, 1) := by decide +kernel
theorem dL_law_384 : decode cL_law 384 = .ok (.invokestatic 162, 3) := by decide +kernel
theorem dL_law_387 : decode cL_law 387 = .ok (.ifCond .eq 27, 3) := by decide +kernel
theorem dL_law_390 : decode cL_law 390 = .ok (.aload_n 1, 1) := by decide +kernel
theorem dL_law_391 : decode cL_law 391 = .ok (.iload 8, 2) := by decide +kernel
theorem dL_law_393 : decode cL_law 393 = .ok (.bipush 8, 2) := by decide +kernel
theorem dL_law_395 : decode cL_law 395 = .ok (.iand, 1) := by decide +kernel
theorem dL_law_396 : decode cL_law 396 = .ok (.ifCond .ne 7, 3) := by decide +kernel
theorem dL_law_399 : decode cL_law 399 = .ok (.iconst 1, 1) := by decide +kernel
theorem dL_law_400 : decode cL_law 400 = .ok (.goto 4, 3) := by decide +kernel
theorem dL_law_403 : decode cL_law 403 = .ok (.iconst 0, 1) := by decide +kernel
theorem dL_law_404 : decode cL_law 404 = .ok (.invokevirtual 166, 3) := by decide +kernel
theorem dL_law_407 : decode cL_law 407 = .ok (.ifCond .lt 7, 3) := by decide +kernel
theorem dL_law_410 : decode cL_law 410 = .ok (.iconst 1, 1) := by decide +kernel
theorem dL_law_411 : decode cL_law 411 = .ok (.goto 4, 3) := by decide +kernel
theorem dL_law_414 : decode cL_law 414 = .ok (.iconst 0, 1) := by decide +kernel
theorem dL_law_415 : decode cL_law 415 = .ok (.istore 6, 2) := by decide +kernel
theorem dL_law_417 : decode cL_law 417 = .ok (.iload 6, 2) := by decide +kernel
theorem dL_law_419 : decode cL_law 419 = .ok (.ifCond .eq 15, 3) := by decide +kernel
theorem dL_law_422 : decode cL_law 422 = .ok (.aload_n 1, 1) := by decide +kernel
theorem dL_law_423 : decode cL_law 423 = .ok (.iload_n 3, 1) := by decide +kernel
theorem dL_law_424 : decode cL_law 424 = .ok (.invokestatic 169, 3) := by decide +kernel
theorem dL_law_427 : decode cL_law 427 = .ok (.ifCond .eq 7, 3) := by decide +kernel
theorem dL_law_430 : decode cL_law 430 = .ok (.iconst 1, 1) := by decide +kernel
theorem dL_law_431 : decode cL_law 431 = .ok (.goto 4, 3) := by decide +kernel
theorem dL_law_434 : decode cL_law 434 = .ok (.iconst 0, 1) := by decide +kernel
theorem dL_law_435 : decode cL_law 435 = .ok (.istore 6, 2) := by decide +kernel
theorem dL_law_437 : decode cL_law 437 = .ok (.iinc 7 1, 3) := by decide +kernel
theorem dL_law_440 : decode cL_law 440 = .ok (.goto (-255), 3) := by decide +kernel
theorem dL_law_443 : decode cL_law 443 = .ok (.iload 6, 2) := by decide +kernel
theorem dL_law_445 : decode cL_law 445 = .ok (.ifCond .eq 28, 3) := by decide +kernel
theorem dL_law_448 : decode cL_law 448 = .ok (.aload_n 1, 1) := by decide +kernel
theorem dL_law_449 : decode cL_law 449 = .ok (.aload_n 0, 1) := by decide +kernel
theorem dL_law_450 : decode cL_law 450 = .ok (.bipush 20, 2) := by decide +kernel
theorem dL_law_452 : decode cL_law 452 = .ok (.invokestatic 144, 3) := by decide +kernel
theorem dL_law_455 : decode cL_law 455 = .ok (.invokestatic 156, 3) := by decide +kernel
theorem dL_law_458 : decode cL_law 458 = .ok (.ifCond .eq 15, 3) := by decide +kernel
theorem dL_law_461 : decode cL_law 461 = .ok (.aload_n 1, 1) := by decide +kernel
theorem dL_law_462 : decode cL_law 462 = .ok (.iload_n 3, 1) := by decide +kernel
theorem dL_law_463 : decode cL_law 463 = .ok (.invokestatic 169, 3) := by decide +kernel
theorem dL_law_466 : decode cL_law 466 = .ok (.ifCond .eq 7, 3) := by decide +kernel
theorem dL_law_469 : decode cL_law 469 = .ok (.iconst 1, 1) := by decide +kernel
theorem dL_law_470 : decode cL_law 470 = .ok (.goto 4, 3) := by decide +kernel
theorem dL_law_473 : decode cL_law 473 = .ok (.iconst 0, 1) := by decide +kernel
theorem dL_law_474 : decode cL_law 474 = .ok (.ireturn, 1) := by decide +kernel
