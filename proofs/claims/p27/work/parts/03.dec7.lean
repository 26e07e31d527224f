theorem dL_due_236 : decode cL_due 236 = .ok (.iaload, 1) := by decide +kernel
theorem dL_due_237 : decode cL_due 237 = .ok (.iconst 1, 1) := by decide +kernel
theorem dL_due_238 : decode cL_due 238 = .ok (.isub, 1) := by decide +kernel
theorem dL_due_239 : decode cL_due 239 = .ok (.ireturn, 1) := by decide +kernel
theorem dL_due_240 : decode cL_due 240 = .ok (.iload_n 1, 1) := by decide +kernel
theorem dL_due_241 : decode cL_due 241 = .ok (.aload 5, 2) := by decide +kernel
theorem dL_due_243 : decode cL_due 243 = .ok (.iconst 5, 1) := by decide +kernel
theorem dL_due_244 : decode cL_due 244 = .ok (.iaload, 1) := by decide +kernel
theorem dL_due_245 : decode cL_due 245 = .ok (.if_icmp .lt 6, 3) := by decide +kernel
theorem dL_due_248 : decode cL_due 248 = .ok (.bipush (-101), 2) := by decide +kernel
theorem dL_due_250 : decode cL_due 250 = .ok (.ireturn, 1) := by decide +kernel
theorem dL_due_251 : decode cL_due 251 = .ok (.aload 7, 2) := by decide +kernel
theorem dL_due_253 : decode cL_due 253 = .ok (.iload_n 1, 1) := by decide +kernel
theorem dL_due_254 : decode cL_due 254 = .ok (.iaload, 1) := by decide +kernel
theorem dL_due_255 : decode cL_due 255 = .ok (.ifCond .ge 7, 3) := by decide +kernel
theorem dL_due_258 : decode cL_due 258 = .ok (.iconst 0, 1) := by decide +kernel
theorem dL_due_259 : decode cL_due 259 = .ok (.goto 34, 3) := by decide +kernel
theorem dL_due_262 : decode cL_due 262 = .ok (.iload_n 1, 1) := by decide +kernel
theorem dL_due_263 : decode cL_due 263 = .ok (.aload 5, 2) := by decide +kernel
theorem dL_due_265 : decode cL_due 265 = .ok (.iconst 3, 1) := by decide +kernel
theorem dL_due_266 : decode cL_due 266 = .ok (.iaload, 1) := by decide +kernel
theorem dL_due_267 : decode cL_due 267 = .ok (.iconst 0, 1) := by decide +kernel
theorem dL_due_268 : decode cL_due 268 = .ok (.aload 5, 2) := by decide +kernel
theorem dL_due_270 : decode cL_due 270 = .ok (.aload 6, 2) := by decide +kernel
theorem dL_due_272 : decode cL_due 272 = .ok (.aload 7, 2) := by decide +kernel
theorem dL_due_274 : decode cL_due 274 = .ok (.invokestatic 48, 3) := by decide +kernel
theorem dL_due_277 : decode cL_due 277 = .ok (.iload_n 1, 1) := by decide +kernel
theorem dL_due_278 : decode cL_due 278 = .ok (.aload 5, 2) := by decide +kernel
theorem dL_due_280 : decode cL_due 280 = .ok (.iconst 4, 1) := by decide +kernel
theorem dL_due_281 : decode cL_due 281 = .ok (.iaload, 1) := by decide +kernel
theorem dL_due_282 : decode cL_due 282 = .ok (.iconst 1, 1) := by decide +kernel
theorem dL_due_283 : decode cL_due 283 = .ok (.aload 5, 2) := by decide +kernel
theorem dL_due_285 : decode cL_due 285 = .ok (.aload 6, 2) := by decide +kernel
theorem dL_due_287 : decode cL_due 287 = .ok (.aload 7, 2) := by decide +kernel
theorem dL_due_289 : decode cL_due 289 = .ok (.invokestatic 48, 3) := by decide +kernel
theorem dL_due_292 : decode cL_due 292 = .ok (.iadd, 1) := by decide +kernel
theorem dL_due_293 : decode cL_due 293 = .ok (.istore 12, 2) := by decide +kernel
theorem dL_due_295 : decode cL_due 295 = .ok (.iload_n 1, 1) := by decide +kernel
theorem dL_due_296 : decode cL_due 296 = .ok (.istore 13, 2) := by decide +kernel
theorem dL_due_298 : decode cL_due 298 = .ok (.iload 13, 2) := by decide +kernel
theorem dL_due_300 : decode cL_due 300 = .ok (.aload 5, 2) := by decide +kernel
theorem dL_due_302 : decode cL_due 302 = .ok (.iconst 5, 1) := by decide +kernel
theorem dL_due_303 : decode cL_due 303 = .ok (.iaload, 1) := by decide +kernel
theorem dL_due_304 : decode cL_due 304 = .ok (.iconst 1, 1) := by decide +kernel
theorem dL_due_305 : decode cL_due 305 = .ok (.isub, 1) := by decide +kernel
theorem dL_due_306 : decode cL_due 306 = .ok (.if_icmp .ge 21, 3) := by decide +kernel
theorem dL_due_309 : decode cL_due 309 = .ok (.aload 6, 2) := by decide +kernel
theorem dL_due_311 : decode cL_due 311 = .ok (.iload 13, 2) := by decide +kernel
theorem dL_due_313 : decode cL_due 313 = .ok (.aload 6, 2) := by decide +kernel
theorem dL_due_315 : decode cL_due 315 = .ok (.iload 13, 2) := by decide +kernel
theorem dL_due_317 : decode cL_due 317 = .ok (.iconst 1, 1) := by decide +kernel
theorem dL_due_318 : decode cL_due 318 = .ok (.iadd, 1) := by decide +kernel
theorem dL_due_319 : decode cL_due 319 = .ok (.iaload, 1) := by decide +kernel
theorem dL_due_320 : decode cL_due 320 = .ok (.iastore, 1) := by decide +kernel
theorem dL_due_321 : decode cL_due 321 = .ok (.iinc 13 1, 3) := by decide +kernel
theorem dL_due_324 : decode cL_due 324 = .ok (.goto (-26), 3) := by decide +kernel
theorem dL_due_327 : decode cL_due 327 = .ok (.aload 5, 2) := by decide +kernel
theorem dL_due_329 : decode cL_due 329 = .ok (.iconst 5, 1) := by decide +kernel
theorem dL_due_330 : decode cL_due 330 = .ok (.dup2, 1) := by decide +kernel
theorem dL_due_331 : decode cL_due 331 = .ok (.iaload, 1) := by decide +kernel
theorem dL_due_332 : decode cL_due 332 = .ok (.iconst 1, 1) := by decide +kernel
theorem dL_due_333 : decode cL_due 333 = .ok (.isub, 1) := by decide +kernel
theorem dL_due_334 : decode cL_due 334 = .ok (.iastore, 1) := by decide +kernel
theorem dL_due_335 : decode cL_due 335 = .ok (.iload 12, 2) := by decide +kernel
theorem dL_due_337 : decode cL_due 337 = .ok (.ireturn, 1) := by decide +kernel
theorem dL_due_338 : decode cL_due 338 = .ok (.iload_n 1, 1) := by decide +kernel
theorem dL_due_339 : decode cL_due 339 = .ok (.aload 5, 2) := by decide +kernel
theorem dL_due_341 : decode cL_due 341 = .ok (.iconst 5, 1) := by decide +kernel
theorem dL_due_342 : decode cL_due 342 = .ok (.iaload, 1) := by decide +kernel
theorem dL_due_343 : decode cL_due 343 = .ok (.if_icmp .ge 14, 3) := by decide +kernel
theorem dL_due_346 : decode cL_due 346 = .ok (.aload 6, 2) := by decide +kernel
theorem dL_due_348 : decode cL_due 348 = .ok (.iload_n 1, 1) := by decide +kernel
theorem dL_due_349 : decode cL_due 349 = .ok (.iaload, 1) := by decide +kernel
theorem dL_due_350 : decode cL_due 350 = .ok (.invokestatic 10, 3) := by decide +kernel
theorem dL_due_353 : decode cL_due 353 = .ok (.iload_n 2, 1) := by decide +kernel
theorem dL_due_354 : decode cL_due 354 = .ok (.if_icmp .ne 19, 3) := by decide +kernel
theorem dL_due_357 : decode cL_due 357 = .ok (.iload_n 1, 1) := by decide +kernel
theorem dL_due_358 : decode cL_due 358 = .ok (.aload 5, 2) := by decide +kernel
theorem dL_due_360 : decode cL_due 360 = .ok (.iconst 5, 1) := by decide +kernel
theorem dL_due_361 : decode cL_due 361 = .ok (.iaload, 1) := by decide +kernel
theorem dL_due_362 : decode cL_due 362 = .ok (.if_icmp .lt 8, 3) := by decide +kernel
theorem dL_due_365 : decode cL_due 365 = .ok (.bipush (-101), 2) := by decide +kernel
theorem dL_due_367 : decode cL_due 367 = .ok (.goto 5, 3) := by decide +kernel
theorem dL_due_370 : decode cL_due 370 = .ok (.bipush (-105), 2) := by decide +kernel
theorem dL_due_372 : decode cL_due 372 = .ok (.ireturn, 1) := by decide +kernel
theorem dL_due_373 : decode cL_due 373 = .ok (.aload 6, 2) := by decide +kernel
theorem dL_due_375 : decode cL_due 375 = .ok (.iload_n 1, 1) := by decide +kernel
theorem dL_due_376 : decode cL_due 376 = .ok (.dup2, 1) := by decide +kernel
theorem dL_due_377 : decode cL_due 377 = .ok (.iaload, 1) := by decide +kernel
theorem dL_due_378 : decode cL_due 378 = .ok (.iload_n 2, 1) := by decide +kernel
theorem dL_due_379 : decode cL_due 379 = .ok (.aload 6, 2) := by decide +kernel
theorem dL_due_381 : decode cL_due 381 = .ok (.iload_n 1, 1) := by decide +kernel
theorem dL_due_382 : decode cL_due 382 = .ok (.iaload, 1) := by decide +kernel
theorem dL_due_383 : decode cL_due 383 = .ok (.invokestatic 10, 3) := by decide +kernel
theorem dL_due_386 : decode cL_due 386 = .ok (.isub, 1) := by decide +kernel
theorem dL_due_387 : decode cL_due 387 = .ok (.iadd, 1) := by decide +kernel
theorem dL_due_388 : decode cL_due 388 = .ok (.iastore, 1) := by decide +kernel
theorem dL_due_389 : decode cL_due 389 = .ok (.aload 5, 2) := by decide +kernel
theorem dL_due_391 : decode cL_due 391 = .ok (.aload 6, 2) := by decide +kernel
theorem dL_due_393 : decode cL_due 393 = .ok (.aload 7, 2) := by decide +kernel
theorem dL_due_395 : decode cL_due 395 = .ok (.aload 8, 2) := by decide +kernel
theorem dL_due_397 : decode cL_due 397 = .ok (.aload 9, 2) := by decide +kernel
theorem dL_due_399 : decode cL_due 399 = .ok (.invokestatic 107, 3) := by decide +kernel
theorem dL_due_402 : decode cL_due 402 = .ok (.aload 7, 2) := by decide +kernel
theorem dL_due_404 : decode cL_due 404 = .ok (.iload_n 1, 1) := by decide +kernel
theorem dL_due_405 : decode cL_due 405 = .ok (.iaload, 1) := by decide +kernel
theorem dL_due_406 : decode cL_due 406 = .ok (.ifCond .ge 8, 3) := by decide +kernel
theorem dL_due_409 : decode cL_due 409 = .ok (.bipush (-106), 2) := by decide +kernel
theorem dL_due_411 : decode cL_due 411 = .ok (.goto 7, 3) := by decide +kernel
theorem dL_due_414 : decode cL_due 414 = .ok (.aload 7, 2) := by decide +kernel
theorem dL_due_416 : decode cL_due 416 = .ok (.iload_n 1, 1) := by decide +kernel
theorem dL_due_417 : decode cL_due 417 = .ok (.iaload, 1) := by decide +kernel
theorem dL_due_418 : decode cL_due 418 = .ok (.ireturn, 1) := by decide +kernel
theorem dL_law_0 : decode cL_law 0 = .ok (.new 40, 3) := by decide +kernel
theorem dL_law_3 : decode cL_law 3 = .ok (.dup, 1) := by decide +kernel
theorem dL_law_4 : decode cL_law 4 = .ok (.invokespecial 111, 3) := by decide +kernel
theorem dL_law_7 : decode cL_law 7 = .ok (.astore_n 1, 1) := by decide +kernel
theorem dL_law_8 : decode cL_law 8 = .ok (.bipush 34, 2) := by decide +kernel
theorem dL_law_10 : decode cL_law 10 = .ok (.newarray .int, 2) := by decide +kernel
theorem dL_law_12 : decode cL_law 12 = .ok (.astore_n 2, 1) := by decide +kernel
theorem dL_law_13 : decode cL_law 13 = .ok (.bipush 24, 2) := by decide +kernel
theorem dL_law_15 : decode cL_law 15 = .ok (.newarray .int, 2) := by decide +kernel
theorem dL_law_17 : decode cL_law 17 = .ok (.astore_n 3, 1) := by decide +kernel
theorem dL_law_18 : decode cL_law 18 = .ok (.bipush 24, 2) := by decide +kernel
theorem dL_law_20 : decode cL_law 20 = .ok (.newarray .int, 2) := by decide +kernel
theorem dL_law_22 : decode cL_law 22 = .ok (.astore 4, 2) := by decide +kernel
theorem dL_law_24 : decode cL_law 24 = .ok (.bipush 24, 2) := by decide +kernel
theorem dL_law_26 : decode cL_law 26 = .ok (.newarray .int, 2) := by decide +kernel
theorem dL_law_28 : decode cL_law 28 = .ok (.astore 5, 2) := by decide +kernel
theorem dL_law_30 : decode cL_law 30 = .ok (.bipush 16, 2) := by decide +kernel
theorem dL_law_32 : decode cL_law 32 = .ok (.newarray .int, 2) := by decide +kernel
theorem dL_law_34 : decode cL_law 34 = .ok (.astore 6, 2) := by decide +kernel
theorem dL_law_36 : decode cL_law 36 = .ok (.aload_n 2, 1) := by decide +kernel
theorem dL_law_37 : decode cL_law 37 = .ok (.iconst 0, 1) := by decide +kernel
theorem dL_law_38 : decode cL_law 38 = .ok (.bipush 30, 2) := by decide +kernel
theorem dL_law_40 : decode cL_law 40 = .ok (.iastore, 1) := by decide +kernel
theorem dL_law_41 : decode cL_law 41 = .ok (.aload_n 2, 1) := by decide +kernel
theorem dL_law_42 : decode cL_law 42 = .ok (.iconst 1, 1) := by decide +kernel
theorem dL_law_43 : decode cL_law 43 = .ok (.bipush 60, 2) := by decide +kernel
theorem dL_law_45 : decode cL_law 45 = .ok (.iastore, 1) := by decide +kernel
theorem dL_law_46 : decode cL_law 46 = .ok (.aload_n 2, 1) := by decide +kernel
theorem dL_law_47 : decode cL_law 47 = .ok (.iconst 2, 1) := by decide +kernel
theorem dL_law_48 : decode cL_law 48 = .ok (.iconst 3, 1) := by decide +kernel
theorem dL_law_49 : decode cL_law 49 = .ok (.iastore, 1) := by decide +kernel
theorem dL_law_50 : decode cL_law 50 = .ok (.aload_n 2, 1) := by decide +kernel
theorem dL_law_51 : decode cL_law 51 = .ok (.iconst 3, 1) := by decide +kernel
theorem dL_law_52 : decode cL_law 52 = .ok (.bipush 60, 2) := by decide +kernel
theorem dL_law_54 : decode cL_law 54 = .ok (.iastore, 1) := by decide +kernel
theorem dL_law_55 : decode cL_law 55 = .ok (.aload_n 2, 1) := by decide +kernel
theorem dL_law_56 : decode cL_law 56 = .ok (.iconst 4, 1) := by decide +kernel
theorem dL_law_57 : decode cL_law 57 = .ok (.bipush 6, 2) := by decide +kernel
theorem dL_law_59 : decode cL_law 59 = .ok (.iastore, 1) := by decide +kernel
theorem dL_law_60 : decode cL_law 60 = .ok (.iconst 0, 1) := by decide +kernel
theorem dL_law_61 : decode cL_law 61 = .ok (.istore 7, 2) := by decide +kernel
theorem dL_law_63 : decode cL_law 63 = .ok (.iload 7, 2) := by decide +kernel
theorem dL_law_65 : decode cL_law 65 = .ok (.bipush 8, 2) := by decide +kernel
theorem dL_law_67 : decode cL_law 67 = .ok (.if_icmp .ge 33, 3) := by decide +kernel
theorem dL_law_70 : decode cL_law 70 = .ok (.aload_n 2, 1) := by decide +kernel
theorem dL_law_71 : decode cL_law 71 = .ok (.bipush 18, 2) := by decide +kernel
theorem dL_law_73 : decode cL_law 73 = .ok (.iload 7, 2) := by decide +kernel
theorem dL_law_75 : decode cL_law 75 = .ok (.iadd, 1) := by decide +kernel
theorem dL_law_76 : decode cL_law 76 = .ok (.bipush 60, 2) := by decide +kernel
theorem dL_law_78 : decode cL_law 78 = .ok (.iload 7, 2) := by decide +kernel
theorem dL_law_80 : decode cL_law 80 = .ok (.imul, 1) := by decide +kernel
theorem dL_law_81 : decode cL_law 81 = .ok (.bipush 60, 2) := by decide +kernel
theorem dL_law_83 : decode cL_law 83 = .ok (.iadd, 1) := by decide +kernel
theorem dL_law_84 : decode cL_law 84 = .ok (.iastore, 1) := by decide +kernel
theorem dL_law_85 : decode cL_law 85 = .ok (.aload_n 2, 1) := by decide +kernel
theorem dL_law_86 : decode cL_law 86 = .ok (.bipush 26, 2) := by decide +kernel
theorem dL_law_88 : decode cL_law 88 = .ok (.iload 7, 2) := by decide +kernel
theorem dL_law_90 : decode cL_law 90 = .ok (.iadd, 1) := by decide +kernel
theorem dL_law_91 : decode cL_law 91 = .ok (.bipush 6, 2) := by decide +kernel
theorem dL_law_93 : decode cL_law 93 = .ok (.iastore, 1) := by decide +kernel
theorem dL_law_94 : decode cL_law 94 = .ok (.iinc 7 1, 3) := by decide +kernel
theorem dL_law_97 : decode cL_law 97 = .ok (.goto (-34), 3) := by decide +kernel
theorem dL_law_100 : decode cL_law 100 = .ok (.iconst 0, 1) := by decide +kernel
theorem dL_law_101 : decode cL_law 101 = .ok (.istore 7, 2) := by decide +kernel
theorem dL_law_103 : decode cL_law 103 = .ok (.iload 7, 2) := by decide +kernel
theorem dL_law_105 : decode cL_law 105 = .ok (.bipush 6, 2) := by decide +kernel
theorem dL_law_107 : decode cL_law 107 = .ok (.if_icmp .ge 21, 3) := by decide +kernel
theorem dL_law_110 : decode cL_law 110 = .ok (.aload_n 2, 1) := by decide +kernel
theorem dL_law_111 : decode cL_law 111 = .ok (.bipush 6, 2) := by decide +kernel
theorem dL_law_113 : decode cL_law 113 = .ok (.iload 7, 2) := by decide +kernel
theorem dL_law_115 : decode cL_law 115 = .ok (.iadd, 1) := by decide +kernel
theorem dL_law_116 : decode cL_law 116 = .ok (.bipush 60, 2) := by decide +kernel
theorem dL_law_118 : decode cL_law 118 = .ok (.iload 7, 2) := by decide +kernel
theorem dL_law_120 : decode cL_law 120 = .ok (.imul, 1) := by decide +kernel
theorem dL_law_121 : decode cL_law 121 = .ok (.iastore, 1) := by decide +kernel
theorem dL_law_122 : decode cL_law 122 = .ok (.iinc 7 1, 3) := by decide +kernel
theorem dL_law_125 : decode cL_law 125 = .ok (.goto (-22), 3) := by decide +kernel
theorem dL_law_128 : decode cL_law 128 = .ok (.iconst 0, 1) := by decide +kernel
theorem dL_law_129 : decode cL_law 129 = .ok (.istore 7, 2) := by decide +kernel
theorem dL_law_131 : decode cL_law 131 = .ok (.iload 7, 2) := by decide +kernel
theorem dL_law_133 : decode cL_law 133 = .ok (.bipush 40, 2) := by decide +kernel
theorem dL_law_135 : decode cL_law 135 = .ok (.if_icmp .ge 676, 3) := by decide +kernel
theorem dL_law_138 : decode cL_law 138 = .ok (.aload_n 0, 1) := by decide +kernel
theorem dL_law_139 : decode cL_law 139 = .ok (.iconst 2, 1) := by decide +kernel
theorem dL_law_140 : decode cL_law 140 = .ok (.iload 7, 2) := by decide +kernel
theorem dL_law_142 : decode cL_law 142 = .ok (.imul, 1) := by decide +kernel
theorem dL_law_143 : decode cL_law 143 = .ok (.invokestatic 112, 3) := by decide +kernel
theorem dL_law_146 : decode cL_law 146 = .ok (.istore 8, 2) := by decide +kernel
theorem dL_law_148 : decode cL_law 148 = .ok (.aload_n 0, 1) := by decide +kernel
theorem dL_law_149 : decode cL_law 149 = .ok (.iconst 2, 1) := by decide +kernel
theorem dL_law_150 : decode cL_law 150 = .ok (.iload 7, 2) := by decide +kernel
theorem dL_law_152 : decode cL_law 152 = .ok (.imul, 1) := by decide +kernel
theorem dL_law_153 : decode cL_law 153 = .ok (.iconst 1, 1) := by decide +kernel
theorem dL_law_154 : decode cL_law 154 = .ok (.iadd, 1) := by decide +kernel
theorem dL_law_155 : decode cL_law 155 = .ok (.invokestatic 112, 3) := by decide +kernel
theorem dL_law_158 : decode cL_law 158 = .ok (.istore 9, 2) := by decide +kernel
theorem dL_law_160 : decode cL_law 160 = .ok (.iload 8, 2) := by decide +kernel
theorem dL_law_162 : decode cL_law 162 = .ok (.bipush 20, 2) := by decide +kernel
theorem dL_law_164 : decode cL_law 164 = .ok (.invokestatic 59, 3) := by decide +kernel
theorem dL_law_167 : decode cL_law 167 = .ok (.istore 10, 2) := by decide +kernel
theorem dL_law_169 : decode cL_law 169 = .ok (.iload 7, 2) := by decide +kernel
theorem dL_law_171 : decode cL_law 171 = .ok (.iconst 5, 1) := by decide +kernel
theorem dL_law_172 : decode cL_law 172 = .ok (.if_icmp .lt 10, 3) := by decide +kernel
theorem dL_law_175 : decode cL_law 175 = .ok (.iload 10, 2) := by decide +kernel
theorem dL_law_177 : decode cL_law 177 = .ok (.bipush 12, 2) := by decide +kernel
theorem dL_law_179 : decode cL_law 179 = .ok (.if_icmp .ge 7, 3) := by decide +kernel
theorem dL_law_182 : decode cL_law 182 = .ok (.iconst 4, 1) := by decide +kernel
theorem dL_law_183 : decode cL_law 183 = .ok (.goto 60, 3) := by decide +kernel
theorem dL_law_186 : decode cL_law 186 = .ok (.iload 10, 2) := by decide +kernel
theorem dL_law_188 : decode cL_law 188 = .ok (.bipush 12, 2) := by decide +kernel
theorem dL_law_190 : decode cL_law 190 = .ok (.if_icmp .ne 7, 3) := by decide +kernel
theorem dL_law_193 : decode cL_law 193 = .ok (.iconst 0, 1) := by decide +kernel
theorem dL_law_194 : decode cL_law 194 = .ok (.goto 49, 3) := by decide +kernel
theorem dL_law_197 : decode cL_law 197 = .ok (.iload 10, 2) := by decide +kernel
theorem dL_law_199 : decode cL_law 199 = .ok (.bipush 13, 2) := by decide +kernel
theorem dL_law_201 : decode cL_law 201 = .ok (.if_icmp .ne 7, 3) := by decide +kernel
theorem dL_law_204 : decode cL_law 204 = .ok (.iconst 1, 1) := by decide +kernel
theorem dL_law_205 : decode cL_law 205 = .ok (.goto 38, 3) := by decide +kernel
theorem dL_law_208 : decode cL_law 208 = .ok (.iload 10, 2) := by decide +kernel
theorem dL_law_210 : decode cL_law 210 = .ok (.bipush 16, 2) := by decide +kernel
theorem dL_law_212 : decode cL_law 212 = .ok (.if_icmp .ge 7, 3) := by decide +kernel
theorem dL_law_215 : decode cL_law 215 = .ok (.iconst 2, 1) := by decide +kernel
theorem dL_law_216 : decode cL_law 216 = .ok (.goto 27, 3) := by decide +kernel
theorem dL_law_219 : decode cL_law 219 = .ok (.iload 10, 2) := by decide +kernel
theorem dL_law_221 : decode cL_law 221 = .ok (.bipush 16, 2) := by decide +kernel
theorem dL_law_223 : decode cL_law 223 = .ok (.if_icmp .ne 7, 3) := by decide +kernel
theorem dL_law_226 : decode cL_law 226 = .ok (.iconst 3, 1) := by decide +kernel
theorem dL_law_227 : decode cL_law 227 = .ok (.goto 16, 3) := by decide +kernel
theorem dL_law_230 : decode cL_law 230 = .ok (.iload 10, 2) := by decide +kernel
theorem dL_law_232 : decode cL_law 232 = .ok (.bipush 17, 2) := by decide +kernel
theorem dL_law_234 : decode cL_law 234 = .ok (.if_icmp .ne 7, 3) := by decide +kernel
theorem dL_law_237 : decode cL_law 237 = .ok (.iconst 5, 1) := by decide +kernel
theorem dL_law_238 : decode cL_law 238 = .ok (.goto 5, 3) := by decide +kernel
theorem dL_law_241 : decode cL_law 241 = .ok (.bipush 6, 2) := by decide +kernel
theorem dL_law_243 : decode cL_law 243 = .ok (.istore 10, 2) := by decide +kernel
theorem dL_law_245 : decode cL_law 245 = .ok (.iload 10, 2) := by decide +kernel
theorem dL_law_247 : decode cL_law 247 = .ok (.ifCond .ne 12, 3) := by decide +kernel
theorem dL_law_250 : decode cL_law 250 = .ok (.iload 9, 2) := by decide +kernel
theorem dL_law_252 : decode cL_law 252 = .ok (.iconst 5, 1) := by decide +kernel
theorem dL_law_253 : decode cL_law 253 = .ok (.invokestatic 59, 3) := by decide +kernel
theorem dL_law_256 : decode cL_law 256 = .ok (.goto 61, 3) := by decide +kernel
theorem dL_law_259 : decode cL_law 259 = .ok (.iload 10, 2) := by decide +kernel
theorem dL_law_261 : decode cL_law 261 = .ok (.iconst 3, 1) := by decide +kernel
theorem dL_law_262 : decode cL_law 262 = .ok (.if_icmp .ne 13, 3) := by decide +kernel
theorem dL_law_265 : decode cL_law 265 = .ok (.iload 9, 2) := by decide +kernel
theorem dL_law_267 : decode cL_law 267 = .ok (.bipush 8, 2) := by decide +kernel
theorem dL_law_269 : decode cL_law 269 = .ok (.invokestatic 59, 3) := by decide +kernel
theorem dL_law_272 : decode cL_law 272 = .ok (.goto 45, 3) := by decide +kernel
theorem dL_law_275 : decode cL_law 275 = .ok (.iload 10, 2) := by decide +kernel
theorem dL_law_277 : decode cL_law 277 = .ok (.iconst 4, 1) := by decide +kernel
theorem dL_law_278 : decode cL_law 278 = .ok (.if_icmp .le 16, 3) := by decide +kernel
theorem dL_law_281 : decode cL_law 281 = .ok (.iload 9, 2) := by decide +kernel
theorem dL_law_283 : decode cL_law 283 = .ok (.aload_n 2, 1) := by decide +kernel
theorem dL_law_284 : decode cL_law 284 = .ok (.iconst 5, 1) := by decide +kernel
theorem dL_law_285 : decode cL_law 285 = .ok (.iaload, 1) := by decide +kernel
theorem dL_law_286 : decode cL_law 286 = .ok (.iconst 1, 1) := by decide +kernel
theorem dL_law_287 : decode cL_law 287 = .ok (.iadd, 1) := by decide +kernel
theorem dL_law_288 : decode cL_law 288 = .ok (.invokestatic 59, 3) := by decide +kernel
theorem dL_law_291 : decode cL_law 291 = .ok (.goto 26, 3) := by decide +kernel
theorem dL_law_294 : decode cL_law 294 = .ok (.iload 9, 2) := by decide +kernel
theorem dL_law_296 : decode cL_law 296 = .ok (.iload 9, 2) := by decide +kernel
theorem dL_law_298 : decode cL_law 298 = .ok (.bipush 20, 2) := by decide +kernel
theorem dL_law_300 : decode cL_law 300 = .ok (.ishr, 1) := by decide +kernel
theorem dL_law_301 : decode cL_law 301 = .ok (.iconst 2, 1) := by decide +kernel
theorem dL_law_302 : decode cL_law 302 = .ok (.invokestatic 59, 3) := by decide +kernel
theorem dL_law_305 : decode cL_law 305 = .ok (.ifCond .ne 8, 3) := by decide +kernel
theorem dL_law_308 : decode cL_law 308 = .ok (.bipush 6, 2) := by decide +kernel
theorem dL_law_310 : decode cL_law 310 = .ok (.goto 4, 3) := by decide +kernel
theorem dL_law_313 : decode cL_law 313 = .ok (.iconst 2, 1) := by decide +kernel
theorem dL_law_314 : decode cL_law 314 = .ok (.invokestatic 59, 3) := by decide +kernel
theorem dL_law_317 : decode cL_law 317 = .ok (.istore 11, 2) := by decide +kernel
theorem dL_law_319 : decode cL_law 319 = .ok (.iload 10, 2) := by decide +kernel
theorem dL_law_321 : decode cL_law 321 = .ok (.ifCond .ne 90, 3) := by decide +kernel
theorem dL_law_324 : decode cL_law 324 = .ok (.iload 11, 2) := by decide +kernel
theorem dL_law_326 : decode cL_law 326 = .ok (.ifCond .ne 15, 3) := by decide +kernel
theorem dL_law_329 : decode cL_law 329 = .ok (.iload 9, 2) := by decide +kernel
theorem dL_law_331 : decode cL_law 331 = .ok (.iconst 3, 1) := by decide +kernel
theorem dL_law_332 : decode cL_law 332 = .ok (.ishr, 1) := by decide +kernel
theorem dL_law_333 : decode cL_law 333 = .ok (.bipush 91, 2) := by decide +kernel
theorem dL_law_335 : decode cL_law 335 = .ok (.invokestatic 59, 3) := by decide +kernel
theorem dL_law_338 : decode cL_law 338 = .ok (.goto 178, 3) := by decide +kernel
theorem dL_law_341 : decode cL_law 341 = .ok (.iload 11, 2) := by decide +kernel
theorem dL_law_343 : decode cL_law 343 = .ok (.iconst 1, 1) := by decide +kernel
theorem dL_law_344 : decode cL_law 344 = .ok (.if_icmp .ne 16, 3) := by decide +kernel
theorem dL_law_347 : decode cL_law 347 = .ok (.iload 9, 2) := by decide +kernel
theorem dL_law_349 : decode cL_law 349 = .ok (.iconst 3, 1) := by decide +kernel
theorem dL_law_350 : decode cL_law 350 = .ok (.ishr, 1) := by decide +kernel
theorem dL_law_351 : decode cL_law 351 = .ok (.sipush 241, 3) := by decide +kernel
theorem dL_law_354 : decode cL_law 354 = .ok (.invokestatic 59, 3) := by decide +kernel
theorem dL_law_357 : decode cL_law 357 = .ok (.goto 159, 3) := by decide +kernel
theorem dL_law_360 : decode cL_law 360 = .ok (.iload 11, 2) := by decide +kernel
theorem dL_law_362 : decode cL_law 362 = .ok (.iconst 2, 1) := by decide +kernel
theorem dL_law_363 : decode cL_law 363 = .ok (.if_icmp .ne 17, 3) := by decide +kernel
theorem dL_law_366 : decode cL_law 366 = .ok (.iconst 1, 1) := by decide +kernel
theorem dL_law_367 : decode cL_law 367 = .ok (.iload 9, 2) := by decide +kernel
theorem dL_law_369 : decode cL_law 369 = .ok (.iconst 3, 1) := by decide +kernel
theorem dL_law_370 : decode cL_law 370 = .ok (.ishr, 1) := by decide +kernel
theorem dL_law_371 : decode cL_law 371 = .ok (.bipush 6, 2) := by decide +kernel
theorem dL_law_373 : decode cL_law 373 = .ok (.invokestatic 59, 3) := by decide +kernel
theorem dL_law_376 : decode cL_law 376 = .ok (.iadd, 1) := by decide +kernel
theorem dL_law_377 : decode cL_law 377 = .ok (.goto 139, 3) := by decide +kernel
theorem dL_law_380 : decode cL_law 380 = .ok (.iload 11, 2) := by decide +kernel
theorem dL_law_382 : decode cL_law 382 = .ok (.iconst 3, 1) := by decide +kernel
theorem dL_law_383 : decode cL_law 383 = .ok (.if_icmp .ne 16, 3) := by decide +kernel
theorem dL_law_386 : decode cL_law 386 = .ok (.iload 9, 2) := by decide +kernel
theorem dL_law_388 : decode cL_law 388 = .ok (.iconst 3, 1) := by decide +kernel
theorem dL_law_389 : decode cL_law 389 = .ok (.ishr, 1) := by decide +kernel
theorem dL_law_390 : decode cL_law 390 = .ok (.sipush 301, 3) := by decide +kernel
theorem dL_law_393 : decode cL_law 393 = .ok (.invokestatic 59, 3) := by decide +kernel
theorem dL_law_396 : decode cL_law 396 = .ok (.goto 120, 3) := by decide +kernel
theorem dL_law_399 : decode cL_law 399 = .ok (.iload 9, 2) := by decide +kernel
theorem dL_law_401 : decode cL_law 401 = .ok (.iconst 3, 1) := by decide +kernel
theorem dL_law_402 : decode cL_law 402 = .ok (.ishr, 1) := by decide +kernel
theorem dL_law_403 : decode cL_law 403 = .ok (.bipush 41, 2) := by decide +kernel
theorem dL_law_405 : decode cL_law 405 = .ok (.invokestatic 59, 3) := by decide +kernel
theorem dL_law_408 : decode cL_law 408 = .ok (.goto 108, 3) := by decide +kernel
theorem dL_law_411 : decode cL_law 411 = .ok (.iload 10, 2) := by decide +kernel
theorem dL_law_413 : decode cL_law 413 = .ok (.iconst 1, 1) := by decide +kernel
theorem dL_law_414 : decode cL_law 414 = .ok (.if_icmp .ne 34, 3) := by decide +kernel
theorem dL_law_417 : decode cL_law 417 = .ok (.iload 9, 2) := by decide +kernel
theorem dL_law_419 : decode cL_law 419 = .ok (.iconst 3, 1) := by decide +kernel
theorem dL_law_420 : decode cL_law 420 = .ok (.ishr, 1) := by decide +kernel
theorem dL_law_421 : decode cL_law 421 = .ok (.iload 9, 2) := by decide +kernel
theorem dL_law_423 : decode cL_law 423 = .ok (.bipush 20, 2) := by decide +kernel
theorem dL_law_425 : decode cL_law 425 = .ok (.ishr, 1) := by decide +kernel
theorem dL_law_426 : decode cL_law 426 = .ok (.iconst 2, 1) := by decide +kernel
theorem dL_law_427 : decode cL_law 427 = .ok (.invokestatic 59, 3) := by decide +kernel
theorem dL_law_430 : decode cL_law 430 = .ok (.ifCond .ne 9, 3) := by decide +kernel
theorem dL_law_433 : decode cL_law 433 = .ok (.sipush 1201, 3) := by decide +kernel
theorem dL_law_436 : decode cL_law 436 = .ok (.goto 6, 3) := by decide +kernel
theorem dL_law_439 : decode cL_law 439 = .ok (.sipush 300, 3) := by decide +kernel
theorem dL_law_442 : decode cL_law 442 = .ok (.invokestatic 59, 3) := by decide +kernel
theorem dL_law_445 : decode cL_law 445 = .ok (.goto 71, 3) := by decide +kernel
theorem dL_law_448 : decode cL_law 448 = .ok (.iload 10, 2) := by decide +kernel
theorem dL_law_450 : decode cL_law 450 = .ok (.iconst 2, 1) := by decide +kernel
theorem dL_law_451 : decode cL_law 451 = .ok (.if_icmp .ne 19, 3) := by decide +kernel
theorem dL_law_454 : decode cL_law 454 = .ok (.iload 9, 2) := by decide +kernel
theorem dL_law_456 : decode cL_law 456 = .ok (.iconst 3, 1) := by decide +kernel
theorem dL_law_457 : decode cL_law 457 = .ok (.ishr, 1) := by decide +kernel
theorem dL_law_458 : decode cL_law 458 = .ok (.sipush 331, 3) := by decide +kernel
theorem dL_law_461 : decode cL_law 461 = .ok (.invokestatic 59, 3) := by decide +kernel
theorem dL_law_464 : decode cL_law 464 = .ok (.bipush 30, 2) := by decide +kernel
theorem dL_law_466 : decode cL_law 466 = .ok (.isub, 1) := by decide +kernel
theorem dL_law_467 : decode cL_law 467 = .ok (.goto 49, 3) := by decide +kernel
theorem dL_law_470 : decode cL_law 470 = .ok (.iload 10, 2) := by decide +kernel
theorem dL_law_472 : decode cL_law 472 = .ok (.iconst 3, 1) := by decide +kernel
theorem dL_law_473 : decode cL_law 473 = .ok (.if_icmp .ne 34, 3) := by decide +kernel
theorem dL_law_476 : decode cL_law 476 = .ok (.iload 9, 2) := by decide +kernel
theorem dL_law_478 : decode cL_law 478 = .ok (.iconst 3, 1) := by decide +kernel
theorem dL_law_479 : decode cL_law 479 = .ok (.ishr, 1) := by decide +kernel
theorem dL_law_480 : decode cL_law 480 = .ok (.iload 9, 2) := by decide +kernel
theorem dL_law_482 : decode cL_law 482 = .ok (.bipush 20, 2) := by decide +kernel
theorem dL_law_484 : decode cL_law 484 = .ok (.ishr, 1) := by decide +kernel
theorem dL_law_485 : decode cL_law 485 = .ok (.iconst 2, 1) := by decide +kernel
theorem dL_law_486 : decode cL_law 486 = .ok (.invokestatic 59, 3) := by decide +kernel
theorem dL_law_489 : decode cL_law 489 = .ok (.ifCond .ne 9, 3) := by decide +kernel
theorem dL_law_492 : decode cL_law 492 = .ok (.sipush 1501, 3) := by decide +kernel
theorem dL_law_495 : decode cL_law 495 = .ok (.goto 6, 3) := by decide +kernel
theorem dL_law_498 : decode cL_law 498 = .ok (.sipush 400, 3) := by decide +kernel
theorem dL_law_501 : decode cL_law 501 = .ok (.invokestatic 59, 3) := by decide +kernel
theorem dL_law_504 : decode cL_law 504 = .ok (.goto 12, 3) := by decide +kernel
theorem dL_law_507 : decode cL_law 507 = .ok (.iload 9, 2) := by decide +kernel
theorem dL_law_509 : decode cL_law 509 = .ok (.iconst 3, 1) := by decide +kernel
theorem dL_law_510 : decode cL_law 510 = .ok (.ishr, 1) := by decide +kernel
theorem dL_law_511 : decode cL_law 511 = .ok (.bipush 6, 2) := by decide +kernel
theorem dL_law_513 : decode cL_law 513 = .ok (.invokestatic 59, 3) := by decide +kernel
theorem dL_law_516 : decode cL_law 516 = .ok (.istore 12, 2) := by decide +kernel
theorem dL_law_518 : decode cL_law 518 = .ok (.iload 10, 2) := by decide +kernel
theorem dL_law_520 : decode cL_law 520 = .ok (.iconst 3, 1) := by decide +kernel
theorem dL_law_521 : decode cL_law 521 = .ok (.if_icmp .ne 16, 3) := by decide +kernel
theorem dL_law_524 : decode cL_law 524 = .ok (.iload 9, 2) := by decide +kernel
theorem dL_law_526 : decode cL_law 526 = .ok (.bipush 14, 2) := by decide +kernel
theorem dL_law_528 : decode cL_law 528 = .ok (.ishr, 1) := by decide +kernel
theorem dL_law_529 : decode cL_law 529 = .ok (.bipush 13, 2) := by decide +kernel
theorem dL_law_531 : decode cL_law 531 = .ok (.invokestatic 59, 3) := by decide +kernel
theorem dL_law_534 : decode cL_law 534 = .ok (.goto 29, 3) := by decide +kernel
theorem dL_law_537 : decode cL_law 537 = .ok (.iload 9, 2) := by decide +kernel
theorem dL_law_539 : decode cL_law 539 = .ok (.bipush 6, 2) := by decide +kernel
theorem dL_law_541 : decode cL_law 541 = .ok (.ishr, 1) := by decide +kernel
theorem dL_law_542 : decode cL_law 542 = .ok (.iload 9, 2) := by decide +kernel
theorem dL_law_544 : decode cL_law 544 = .ok (.bipush 21, 2) := by decide +kernel
theorem dL_law_546 : decode cL_law 546 = .ok (.ishr, 1) := by decide +kernel
theorem dL_law_547 : decode cL_law 547 = .ok (.iconst 3, 1) := by decide +kernel
theorem dL_law_548 : decode cL_law 548 = .ok (.invokestatic 59, 3) := by decide +kernel
theorem dL_law_551 : decode cL_law 551 = .ok (.ifCond .ne 8, 3) := by decide +kernel
theorem dL_law_554 : decode cL_law 554 = .ok (.bipush 100, 2) := by decide +kernel
theorem dL_law_556 : decode cL_law 556 = .ok (.goto 4, 3) := by decide +kernel
theorem dL_law_559 : decode cL_law 559 = .ok (.iconst 3, 1) := by decide +kernel
theorem dL_law_560 : decode cL_law 560 = .ok (.invokestatic 59, 3) := by decide +kernel
theorem dL_law_563 : decode cL_law 563 = .ok (.istore 13, 2) := by decide +kernel
theorem dL_law_565 : decode cL_law 565 = .ok (.iconst 1, 1) := by decide +kernel
theorem dL_law_566 : decode cL_law 566 = .ok (.iload 9, 2) := by decide +kernel
theorem dL_law_568 : decode cL_law 568 = .ok (.bipush 13, 2) := by decide +kernel
theorem dL_law_570 : decode cL_law 570 = .ok (.ishr, 1) := by decide +kernel
theorem dL_law_571 : decode cL_law 571 = .ok (.iconst 4, 1) := by decide +kernel
theorem dL_law_572 : decode cL_law 572 = .ok (.invokestatic 59, 3) := by decide +kernel
theorem dL_law_575 : decode cL_law 575 = .ok (.iadd, 1) := by decide +kernel
theorem dL_law_576 : decode cL_law 576 = .ok (.istore 14, 2) := by decide +kernel
theorem dL_law_578 : decode cL_law 578 = .ok (.aload_n 1, 1) := by decide +kernel
theorem dL_law_579 : decode cL_law 579 = .ok (.invokestatic 116, 3) := by decide +kernel
theorem dL_law_582 : decode cL_law 582 = .ok (.lstore 15, 2) := by decide +kernel
theorem dL_law_584 : decode cL_law 584 = .ok (.aload_n 1, 1) := by decide +kernel
theorem dL_law_585 : decode cL_law 585 = .ok (.iload 10, 2) := by decide +kernel
theorem dL_law_587 : decode cL_law 587 = .ok (.iload 11, 2) := by decide +kernel
theorem dL_law_589 : decode cL_law 589 = .ok (.iload 12, 2) := by decide +kernel
theorem dL_law_591 : decode cL_law 591 = .ok (.iload 13, 2) := by decide +kernel
theorem dL_law_593 : decode cL_law 593 = .ok (.iload 14, 2) := by decide +kernel
theorem dL_law_595 : decode cL_law 595 = .ok (.invokestatic 120, 3) := by decide +kernel
theorem dL_law_598 : decode cL_law 598 = .ok (.istore 17, 2) := by decide +kernel
theorem dL_law_600 : decode cL_law 600 = .ok (.iload 17, 2) := by decide +kernel
theorem dL_law_602 : decode cL_law 602 = .ok (.bipush (-100), 2) := by decide +kernel
theorem dL_law_604 : decode cL_law 604 = .ok (.if_icmp .ge 14, 3) := by decide +kernel
theorem dL_law_607 : decode cL_law 607 = .ok (.iload 17, 2) := by decide +kernel
theorem dL_law_609 : decode cL_law 609 = .ok (.bipush (-106), 2) := by decide +kernel
theorem dL_law_611 : decode cL_law 611 = .ok (.if_icmp .eq 7, 3) := by decide +kernel
theorem dL_law_614 : decode cL_law 614 = .ok (.iconst 1, 1) := by decide +kernel
theorem dL_law_615 : decode cL_law 615 = .ok (.goto 4, 3) := by decide +kernel
theorem dL_law_618 : decode cL_law 618 = .ok (.iconst 0, 1) := by decide +kernel
theorem dL_law_619 : decode cL_law 619 = .ok (.istore 18, 2) := by decide +kernel
theorem dL_law_621 : decode cL_law 621 = .ok (.iload 18, 2) := by decide +kernel
theorem dL_law_623 : decode cL_law 623 = .ok (.ifCond .eq 16, 3) := by decide +kernel
theorem dL_law_626 : decode cL_law 626 = .ok (.aload_n 1, 1) := by decide +kernel
theorem dL_law_627 : decode cL_law 627 = .ok (.invokestatic 116, 3) := by decide +kernel
theorem dL_law_630 : decode cL_law 630 = .ok (.lload 15, 2) := by decide +kernel
theorem dL_law_632 : decode cL_law 632 = .ok (.lcmp, 1) := by decide +kernel
theorem dL_law_633 : decode cL_law 633 = .ok (.ifCond .eq 54, 3) := by decide +kernel
theorem dL_law_636 : decode cL_law 636 = .ok (.goto 49, 3) := by decide +kernel
theorem dL_law_639 : decode cL_law 639 = .ok (.iload 8, 2) := by decide +kernel
theorem dL_law_641 : decode cL_law 641 = .ok (.bipush 24, 2) := by decide +kernel
theorem dL_law_643 : decode cL_law 643 = .ok (.ishr, 1) := by decide +kernel
theorem dL_law_644 : decode cL_law 644 = .ok (.iconst 3, 1) := by decide +kernel
theorem dL_law_645 : decode cL_law 645 = .ok (.iand, 1) := by decide +kernel
theorem dL_law_646 : decode cL_law 646 = .ok (.ifCond .ne 41, 3) := by decide +kernel
theorem dL_law_649 : decode cL_law 649 = .ok (.aload_n 1, 1) := by decide +kernel
theorem dL_law_650 : decode cL_law 650 = .ok (.invokevirtual 124, 3) := by decide +kernel
theorem dL_law_653 : decode cL_law 653 = .ok (.ifCond .lt 32, 3) := by decide +kernel
theorem dL_law_656 : decode cL_law 656 = .ok (.aload_n 1, 1) := by decide +kernel
theorem dL_law_657 : decode cL_law 657 = .ok (.invokestatic 116, 3) := by decide +kernel
theorem dL_law_660 : decode cL_law 660 = .ok (.lload 15, 2) := by decide +kernel
theorem dL_law_662 : decode cL_law 662 = .ok (.lcmp, 1) := by decide +kernel
theorem dL_law_663 : decode cL_law 663 = .ok (.ifCond .ne 22, 3) := by decide +kernel
theorem dL_law_666 : decode cL_law 666 = .ok (.aload_n 1, 1) := by decide +kernel
theorem dL_law_667 : decode cL_law 667 = .ok (.iload 10, 2) := by decide +kernel
theorem dL_law_669 : decode cL_law 669 = .ok (.iload 11, 2) := by decide +kernel
theorem dL_law_671 : decode cL_law 671 = .ok (.iload 12, 2) := by decide +kernel
theorem dL_law_673 : decode cL_law 673 = .ok (.iload 13, 2) := by decide +kernel
theorem dL_law_675 : decode cL_law 675 = .ok (.iload 14, 2) := by decide +kernel
theorem dL_law_677 : decode cL_law 677 = .ok (.invokestatic 120, 3) := by decide +kernel
theorem dL_law_680 : decode cL_law 680 = .ok (.iload 17, 2) := by decide +kernel
theorem dL_law_682 : decode cL_law 682 = .ok (.if_icmp .eq 5, 3) := by decide +kernel
theorem dL_law_685 : decode cL_law 685 = .ok (.iconst 0, 1) := by decide +kernel
theorem dL_law_686 : decode cL_law 686 = .ok (.ireturn, 1) := by decide +kernel
theorem dL_law_687 : decode cL_law 687 = .ok (.iload 17, 2) := by decide +kernel
theorem dL_law_689 : decode cL_law 689 = .ok (.iload 10, 2) := by decide +kernel
theorem dL_law_691 : decode cL_law 691 = .ok (.iload 11, 2) := by decide +kernel
theorem dL_law_693 : decode cL_law 693 = .ok (.iload 12, 2) := by decide +kernel
theorem dL_law_695 : decode cL_law 695 = .ok (.iload 13, 2) := by decide +kernel
theorem dL_law_697 : decode cL_law 697 = .ok (.iload 14, 2) := by decide +kernel
theorem dL_law_699 : decode cL_law 699 = .ok (.aload_n 2, 1) := by decide +kernel
theorem dL_law_700 : decode cL_law 700 = .ok (.aload_n 3, 1) := by decide +kernel
theorem dL_law_701 : decode cL_law 701 = .ok (.aload 4, 2) := by decide +kernel
theorem dL_law_703 : decode cL_law 703 = .ok (.aload 5, 2) := by decide +kernel
theorem dL_law_705 : decode cL_law 705 = .ok (.aload 6, 2) := by decide +kernel
theorem dL_law_707 : decode cL_law 707 = .ok (.invokestatic 127, 3) := by decide +kernel
theorem dL_law_710 : decode cL_law 710 = .ok (.if_icmp .eq 5, 3) := by decide +kernel
theorem dL_law_713 : decode cL_law 713 = .ok (.iconst 0, 1) := by decide +kernel
theorem dL_law_714 : decode cL_law 714 = .ok (.ireturn, 1) := by decide +kernel
theorem dL_law_715 : decode cL_law 715 = .ok (.aload_n 2, 1) := by decide +kernel
theorem dL_law_716 : decode cL_law 716 = .ok (.aload_n 3, 1) := by decide +kernel
theorem dL_law_717 : decode cL_law 717 = .ok (.aload 4, 2) := by decide +kernel
theorem dL_law_719 : decode cL_law 719 = .ok (.aload 5, 2) := by decide +kernel
theorem dL_law_721 : decode cL_law 721 = .ok (.aload 6, 2) := by decide +kernel
theorem dL_law_723 : decode cL_law 723 = .ok (.invokestatic 107, 3) := by decide +kernel
theorem dL_law_726 : decode cL_law 726 = .ok (.aload_n 1, 1) := by decide +kernel
theorem dL_law_727 : decode cL_law 727 = .ok (.iload 8, 2) := by decide +kernel
theorem dL_law_729 : decode cL_law 729 = .ok (.iconst 3, 1) := by decide +kernel
theorem dL_law_730 : decode cL_law 730 = .ok (.ishr, 1) := by decide +kernel
theorem dL_law_731 : decode cL_law 731 = .ok (.aload_n 2, 1) := by decide +kernel
theorem dL_law_732 : decode cL_law 732 = .ok (.aload_n 3, 1) := by decide +kernel
theorem dL_law_733 : decode cL_law 733 = .ok (.aload 4, 2) := by decide +kernel
theorem dL_law_735 : decode cL_law 735 = .ok (.aload 6, 2) := by decide +kernel
theorem dL_law_737 : decode cL_law 737 = .ok (.invokestatic 131, 3) := by decide +kernel
theorem dL_law_740 : decode cL_law 740 = .ok (.ifCond .eq 63, 3) := by decide +kernel
theorem dL_law_743 : decode cL_law 743 = .ok (.aload_n 2, 1) := by decide +kernel
theorem dL_law_744 : decode cL_law 744 = .ok (.iconst 5, 1) := by decide +kernel
theorem dL_law_745 : decode cL_law 745 = .ok (.iaload, 1) := by decide +kernel
theorem dL_law_746 : decode cL_law 746 = .ok (.ifCond .le 25, 3) := by decide +kernel
theorem dL_law_749 : decode cL_law 749 = .ok (.aload_n 1, 1) := by decide +kernel
theorem dL_law_750 : decode cL_law 750 = .ok (.iload 9, 2) := by decide +kernel
theorem dL_law_752 : decode cL_law 752 = .ok (.bipush 8, 2) := by decide +kernel
theorem dL_law_754 : decode cL_law 754 = .ok (.ishr, 1) := by decide +kernel
theorem dL_law_755 : decode cL_law 755 = .ok (.aload_n 2, 1) := by decide +kernel
theorem dL_law_756 : decode cL_law 756 = .ok (.iconst 5, 1) := by decide +kernel
theorem dL_law_757 : decode cL_law 757 = .ok (.iaload, 1) := by decide +kernel
theorem dL_law_758 : decode cL_law 758 = .ok (.invokestatic 59, 3) := by decide +kernel
theorem dL_law_761 : decode cL_law 761 = .ok (.aload_n 2, 1) := by decide +kernel
theorem dL_law_762 : decode cL_law 762 = .ok (.aload_n 3, 1) := by decide +kernel
theorem dL_law_763 : decode cL_law 763 = .ok (.aload 4, 2) := by decide +kernel
theorem dL_law_765 : decode cL_law 765 = .ok (.invokestatic 135, 3) := by decide +kernel
theorem dL_law_768 : decode cL_law 768 = .ok (.ifCond .eq 35, 3) := by decide +kernel
theorem dL_law_771 : decode cL_law 771 = .ok (.aload_n 1, 1) := by decide +kernel
theorem dL_law_772 : decode cL_law 772 = .ok (.iload 8, 2) := by decide +kernel
theorem dL_law_774 : decode cL_law 774 = .ok (.bipush 7, 2) := by decide +kernel
theorem dL_law_776 : decode cL_law 776 = .ok (.ishr, 1) := by decide +kernel
theorem dL_law_777 : decode cL_law 777 = .ok (.bipush 8, 2) := by decide +kernel
theorem dL_law_779 : decode cL_law 779 = .ok (.invokestatic 59, 3) := by decide +kernel
theorem dL_law_782 : decode cL_law 782 = .ok (.iload 8, 2) := by decide +kernel
theorem dL_law_784 : decode cL_law 784 = .ok (.bipush 10, 2) := by decide +kernel
theorem dL_law_786 : decode cL_law 786 = .ok (.ishr, 1) := by decide +kernel
theorem dL_law_787 : decode cL_law 787 = .ok (.iconst 4, 1) := by decide +kernel
theorem dL_law_788 : decode cL_law 788 = .ok (.invokestatic 59, 3) := by decide +kernel
theorem dL_law_791 : decode cL_law 791 = .ok (.aload_n 2, 1) := by decide +kernel
theorem dL_law_792 : decode cL_law 792 = .ok (.aload_n 3, 1) := by decide +kernel
theorem dL_law_793 : decode cL_law 793 = .ok (.aload 4, 2) := by decide +kernel
theorem dL_law_795 : decode cL_law 795 = .ok (.aload 6, 2) := by decide +kernel
theorem dL_law_797 : decode cL_law 797 = .ok (.invokestatic 139, 3) := by decide +kernel
theorem dL_law_800 : decode cL_law 800 = .ok (.ifCond .ne 5, 3) := by decide +kernel
theorem dL_law_803 : decode cL_law 803 = .ok (.iconst 0, 1) := by decide +kernel
theorem dL_law_804 : decode cL_law 804 = .ok (.ireturn, 1) := by decide +kernel
theorem dL_law_805 : decode cL_law 805 = .ok (.iinc 7 1, 3) := by decide +kernel
theorem dL_law_808 : decode cL_law 808 = .ok (.goto (-677), 3) := by decide +kernel
theorem dL_law_811 : decode cL_law 811 = .ok (.iconst 1, 1) := by decide +kernel
theorem dL_law_812 : decode cL_law 812 = .ok (.ireturn, 1) := by decide +kernel
