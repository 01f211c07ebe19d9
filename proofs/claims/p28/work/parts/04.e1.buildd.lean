theorem dL_build_0 : decode cL_build 0 = .ok (.aload_n 1, 1) := by decide +kernel
theorem dL_build_1 : decode cL_build 1 = .ok (.iload_n 2, 1) := by decide +kernel
theorem dL_build_2 : decode cL_build 2 = .ok (.invokestatic 10, 3) := by decide +kernel
theorem dL_build_5 : decode cL_build 5 = .ok (.istore 4, 2) := by decide +kernel
theorem dL_build_7 : decode cL_build 7 = .ok (.iconst 1, 1) := by decide +kernel
theorem dL_build_8 : decode cL_build 8 = .ok (.iload 4, 2) := by decide +kernel
theorem dL_build_10 : decode cL_build 10 = .ok (.bipush 8, 2) := by decide +kernel
theorem dL_build_12 : decode cL_build 12 = .ok (.invokestatic 16, 3) := by decide +kernel
theorem dL_build_15 : decode cL_build 15 = .ok (.iadd, 1) := by decide +kernel
theorem dL_build_16 : decode cL_build 16 = .ok (.istore 5, 2) := by decide +kernel
theorem dL_build_18 : decode cL_build 18 = .ok (.aload_n 0, 1) := by decide +kernel
theorem dL_build_19 : decode cL_build 19 = .ok (.iload 4, 2) := by decide +kernel
theorem dL_build_21 : decode cL_build 21 = .ok (.iconst 3, 1) := by decide +kernel
theorem dL_build_22 : decode cL_build 22 = .ok (.ishr, 1) := by decide +kernel
theorem dL_build_23 : decode cL_build 23 = .ok (.bipush 6, 2) := by decide +kernel
theorem dL_build_25 : decode cL_build 25 = .ok (.invokestatic 16, 3) := by decide +kernel
theorem dL_build_28 : decode cL_build 28 = .ok (.invokevirtual 20, 3) := by decide +kernel
theorem dL_build_31 : decode cL_build 31 = .ok (.iconst 2, 1) := by decide +kernel
theorem dL_build_32 : decode cL_build 32 = .ok (.if_icmp .ne 32, 3) := by decide +kernel
theorem dL_build_35 : decode cL_build 35 = .ok (.aload_n 0, 1) := by decide +kernel
theorem dL_build_36 : decode cL_build 36 = .ok (.iload 4, 2) := by decide +kernel
theorem dL_build_38 : decode cL_build 38 = .ok (.bipush 6, 2) := by decide +kernel
theorem dL_build_40 : decode cL_build 40 = .ok (.ishr, 1) := by decide +kernel
theorem dL_build_41 : decode cL_build 41 = .ok (.iconst 4, 1) := by decide +kernel
theorem dL_build_42 : decode cL_build 42 = .ok (.invokestatic 16, 3) := by decide +kernel
theorem dL_build_45 : decode cL_build 45 = .ok (.invokevirtual 20, 3) := by decide +kernel
theorem dL_build_48 : decode cL_build 48 = .ok (.iload 4, 2) := by decide +kernel
theorem dL_build_50 : decode cL_build 50 = .ok (.iconst 3, 1) := by decide +kernel
theorem dL_build_51 : decode cL_build 51 = .ok (.ishr, 1) := by decide +kernel
theorem dL_build_52 : decode cL_build 52 = .ok (.bipush 6, 2) := by decide +kernel
theorem dL_build_54 : decode cL_build 54 = .ok (.invokestatic 16, 3) := by decide +kernel
theorem dL_build_57 : decode cL_build 57 = .ok (.if_icmp .ne 7, 3) := by decide +kernel
theorem dL_build_60 : decode cL_build 60 = .ok (.iconst 1, 1) := by decide +kernel
theorem dL_build_61 : decode cL_build 61 = .ok (.goto 4, 3) := by decide +kernel
theorem dL_build_64 : decode cL_build 64 = .ok (.iconst 0, 1) := by decide +kernel
theorem dL_build_65 : decode cL_build 65 = .ok (.istore 6, 2) := by decide +kernel
theorem dL_build_67 : decode cL_build 67 = .ok (.iconst 0, 1) := by decide +kernel
theorem dL_build_68 : decode cL_build 68 = .ok (.istore 7, 2) := by decide +kernel
theorem dL_build_70 : decode cL_build 70 = .ok (.iload 7, 2) := by decide +kernel
theorem dL_build_72 : decode cL_build 72 = .ok (.iconst 4, 1) := by decide +kernel
theorem dL_build_73 : decode cL_build 73 = .ok (.if_icmp .ge 108, 3) := by decide +kernel
theorem dL_build_76 : decode cL_build 76 = .ok (.iload 6, 2) := by decide +kernel
theorem dL_build_78 : decode cL_build 78 = .ok (.ifCond .eq 103, 3) := by decide +kernel
theorem dL_build_81 : decode cL_build 81 = .ok (.iload 4, 2) := by decide +kernel
theorem dL_build_83 : decode cL_build 83 = .ok (.bipush 8, 2) := by decide +kernel
theorem dL_build_85 : decode cL_build 85 = .ok (.iconst 3, 1) := by decide +kernel
theorem dL_build_86 : decode cL_build 86 = .ok (.iload 7, 2) := by decide +kernel
theorem dL_build_88 : decode cL_build 88 = .ok (.imul, 1) := by decide +kernel
theorem dL_build_89 : decode cL_build 89 = .ok (.iadd, 1) := by decide +kernel
theorem dL_build_90 : decode cL_build 90 = .ok (.ishr, 1) := by decide +kernel
theorem dL_build_91 : decode cL_build 91 = .ok (.bipush 6, 2) := by decide +kernel
theorem dL_build_93 : decode cL_build 93 = .ok (.invokestatic 16, 3) := by decide +kernel
theorem dL_build_96 : decode cL_build 96 = .ok (.istore 8, 2) := by decide +kernel
theorem dL_build_98 : decode cL_build 98 = .ok (.iload 8, 2) := by decide +kernel
theorem dL_build_100 : decode cL_build 100 = .ok (.iconst 1, 1) := by decide +kernel
theorem dL_build_101 : decode cL_build 101 = .ok (.iadd, 1) := by decide +kernel
theorem dL_build_102 : decode cL_build 102 = .ok (.iload 4, 2) := by decide +kernel
theorem dL_build_104 : decode cL_build 104 = .ok (.bipush 20, 2) := by decide +kernel
theorem dL_build_106 : decode cL_build 106 = .ok (.iload 7, 2) := by decide +kernel
theorem dL_build_108 : decode cL_build 108 = .ok (.iadd, 1) := by decide +kernel
theorem dL_build_109 : decode cL_build 109 = .ok (.ishr, 1) := by decide +kernel
theorem dL_build_110 : decode cL_build 110 = .ok (.iconst 5, 1) := by decide +kernel
theorem dL_build_111 : decode cL_build 111 = .ok (.invokestatic 16, 3) := by decide +kernel
theorem dL_build_114 : decode cL_build 114 = .ok (.iadd, 1) := by decide +kernel
theorem dL_build_115 : decode cL_build 115 = .ok (.bipush 6, 2) := by decide +kernel
theorem dL_build_117 : decode cL_build 117 = .ok (.irem, 1) := by decide +kernel
theorem dL_build_118 : decode cL_build 118 = .ok (.istore 9, 2) := by decide +kernel
theorem dL_build_120 : decode cL_build 120 = .ok (.aload_n 0, 1) := by decide +kernel
theorem dL_build_121 : decode cL_build 121 = .ok (.iload 8, 2) := by decide +kernel
theorem dL_build_123 : decode cL_build 123 = .ok (.iconst 2, 1) := by decide +kernel
theorem dL_build_124 : decode cL_build 124 = .ok (.invokevirtual 26, 3) := by decide +kernel
theorem dL_build_127 : decode cL_build 127 = .ok (.iload 9, 2) := by decide +kernel
theorem dL_build_129 : decode cL_build 129 = .ok (.ishr, 1) := by decide +kernel
theorem dL_build_130 : decode cL_build 130 = .ok (.iconst 1, 1) := by decide +kernel
theorem dL_build_131 : decode cL_build 131 = .ok (.iand, 1) := by decide +kernel
theorem dL_build_132 : decode cL_build 132 = .ok (.istore 10, 2) := by decide +kernel
theorem dL_build_134 : decode cL_build 134 = .ok (.aload_n 0, 1) := by decide +kernel
theorem dL_build_135 : decode cL_build 135 = .ok (.iload 8, 2) := by decide +kernel
theorem dL_build_137 : decode cL_build 137 = .ok (.iload 9, 2) := by decide +kernel
theorem dL_build_139 : decode cL_build 139 = .ok (.invokevirtual 29, 3) := by decide +kernel
theorem dL_build_142 : decode cL_build 142 = .ok (.iconst 1, 1) := by decide +kernel
theorem dL_build_143 : decode cL_build 143 = .ok (.iload 10, 2) := by decide +kernel
theorem dL_build_145 : decode cL_build 145 = .ok (.isub, 1) := by decide +kernel
theorem dL_build_146 : decode cL_build 146 = .ok (.if_icmp .ne 26, 3) := by decide +kernel
theorem dL_build_149 : decode cL_build 149 = .ok (.aload_n 0, 1) := by decide +kernel
theorem dL_build_150 : decode cL_build 150 = .ok (.iload 9, 2) := by decide +kernel
theorem dL_build_152 : decode cL_build 152 = .ok (.iconst 2, 1) := by decide +kernel
theorem dL_build_153 : decode cL_build 153 = .ok (.invokevirtual 26, 3) := by decide +kernel
theorem dL_build_156 : decode cL_build 156 = .ok (.iload 8, 2) := by decide +kernel
theorem dL_build_158 : decode cL_build 158 = .ok (.ishr, 1) := by decide +kernel
theorem dL_build_159 : decode cL_build 159 = .ok (.iconst 1, 1) := by decide +kernel
theorem dL_build_160 : decode cL_build 160 = .ok (.iand, 1) := by decide +kernel
theorem dL_build_161 : decode cL_build 161 = .ok (.iconst 1, 1) := by decide +kernel
theorem dL_build_162 : decode cL_build 162 = .ok (.iload 10, 2) := by decide +kernel
theorem dL_build_164 : decode cL_build 164 = .ok (.isub, 1) := by decide +kernel
theorem dL_build_165 : decode cL_build 165 = .ok (.if_icmp .ne 7, 3) := by decide +kernel
theorem dL_build_168 : decode cL_build 168 = .ok (.iconst 1, 1) := by decide +kernel
theorem dL_build_169 : decode cL_build 169 = .ok (.goto 4, 3) := by decide +kernel
theorem dL_build_172 : decode cL_build 172 = .ok (.iconst 0, 1) := by decide +kernel
theorem dL_build_173 : decode cL_build 173 = .ok (.istore 6, 2) := by decide +kernel
theorem dL_build_175 : decode cL_build 175 = .ok (.iinc 7 1, 3) := by decide +kernel
theorem dL_build_178 : decode cL_build 178 = .ok (.goto (-108), 3) := by decide +kernel
theorem dL_build_181 : decode cL_build 181 = .ok (.iconst 0, 1) := by decide +kernel
theorem dL_build_182 : decode cL_build 182 = .ok (.istore 7, 2) := by decide +kernel
theorem dL_build_184 : decode cL_build 184 = .ok (.iload 7, 2) := by decide +kernel
theorem dL_build_186 : decode cL_build 186 = .ok (.iload 5, 2) := by decide +kernel
theorem dL_build_188 : decode cL_build 188 = .ok (.if_icmp .ge 130, 3) := by decide +kernel
theorem dL_build_191 : decode cL_build 191 = .ok (.iload 6, 2) := by decide +kernel
theorem dL_build_193 : decode cL_build 193 = .ok (.ifCond .eq 125, 3) := by decide +kernel
theorem dL_build_196 : decode cL_build 196 = .ok (.aload_n 1, 1) := by decide +kernel
theorem dL_build_197 : decode cL_build 197 = .ok (.iload_n 2, 1) := by decide +kernel
theorem dL_build_198 : decode cL_build 198 = .ok (.iconst 1, 1) := by decide +kernel
theorem dL_build_199 : decode cL_build 199 = .ok (.iadd, 1) := by decide +kernel
theorem dL_build_200 : decode cL_build 200 = .ok (.iload 7, 2) := by decide +kernel
theorem dL_build_202 : decode cL_build 202 = .ok (.iadd, 1) := by decide +kernel
theorem dL_build_203 : decode cL_build 203 = .ok (.invokestatic 10, 3) := by decide +kernel
theorem dL_build_206 : decode cL_build 206 = .ok (.istore 8, 2) := by decide +kernel
theorem dL_build_208 : decode cL_build 208 = .ok (.iload 8, 2) := by decide +kernel
theorem dL_build_210 : decode cL_build 210 = .ok (.bipush 64, 2) := by decide +kernel
theorem dL_build_212 : decode cL_build 212 = .ok (.invokestatic 16, 3) := by decide +kernel
theorem dL_build_215 : decode cL_build 215 = .ok (.iload 8, 2) := by decide +kernel
theorem dL_build_217 : decode cL_build 217 = .ok (.bipush 6, 2) := by decide +kernel
theorem dL_build_219 : decode cL_build 219 = .ok (.ishr, 1) := by decide +kernel
theorem dL_build_220 : decode cL_build 220 = .ok (.bipush 64, 2) := by decide +kernel
theorem dL_build_222 : decode cL_build 222 = .ok (.invokestatic 16, 3) := by decide +kernel
theorem dL_build_225 : decode cL_build 225 = .ok (.iand, 1) := by decide +kernel
theorem dL_build_226 : decode cL_build 226 = .ok (.istore 9, 2) := by decide +kernel
theorem dL_build_228 : decode cL_build 228 = .ok (.iconst 1, 1) := by decide +kernel
theorem dL_build_229 : decode cL_build 229 = .ok (.iload 8, 2) := by decide +kernel
theorem dL_build_231 : decode cL_build 231 = .ok (.bipush 12, 2) := by decide +kernel
theorem dL_build_233 : decode cL_build 233 = .ok (.ishr, 1) := by decide +kernel
theorem dL_build_234 : decode cL_build 234 = .ok (.iload 8, 2) := by decide +kernel
theorem dL_build_236 : decode cL_build 236 = .ok (.bipush 16, 2) := by decide +kernel
theorem dL_build_238 : decode cL_build 238 = .ok (.ishr, 1) := by decide +kernel
theorem dL_build_239 : decode cL_build 239 = .ok (.iconst 3, 1) := by decide +kernel
theorem dL_build_240 : decode cL_build 240 = .ok (.invokestatic 16, 3) := by decide +kernel
theorem dL_build_243 : decode cL_build 243 = .ok (.ifCond .ne 8, 3) := by decide +kernel
theorem dL_build_246 : decode cL_build 246 = .ok (.bipush 9, 2) := by decide +kernel
theorem dL_build_248 : decode cL_build 248 = .ok (.goto 4, 3) := by decide +kernel
theorem dL_build_251 : decode cL_build 251 = .ok (.iconst 3, 1) := by decide +kernel
theorem dL_build_252 : decode cL_build 252 = .ok (.invokestatic 16, 3) := by decide +kernel
theorem dL_build_255 : decode cL_build 255 = .ok (.iadd, 1) := by decide +kernel
theorem dL_build_256 : decode cL_build 256 = .ok (.istore 10, 2) := by decide +kernel
theorem dL_build_258 : decode cL_build 258 = .ok (.aload_n 0, 1) := by decide +kernel
theorem dL_build_259 : decode cL_build 259 = .ok (.iload 9, 2) := by decide +kernel
theorem dL_build_261 : decode cL_build 261 = .ok (.iload 10, 2) := by decide +kernel
theorem dL_build_263 : decode cL_build 263 = .ok (.invokevirtual 32, 3) := by decide +kernel
theorem dL_build_266 : decode cL_build 266 = .ok (.iload 7, 2) := by decide +kernel
theorem dL_build_268 : decode cL_build 268 = .ok (.if_icmp .ne 41, 3) := by decide +kernel
theorem dL_build_271 : decode cL_build 271 = .ok (.aload_n 0, 1) := by decide +kernel
theorem dL_build_272 : decode cL_build 272 = .ok (.iload 7, 2) := by decide +kernel
theorem dL_build_274 : decode cL_build 274 = .ok (.iconst 0, 1) := by decide +kernel
theorem dL_build_275 : decode cL_build 275 = .ok (.invokevirtual 35, 3) := by decide +kernel
theorem dL_build_278 : decode cL_build 278 = .ok (.iload 9, 2) := by decide +kernel
theorem dL_build_280 : decode cL_build 280 = .ok (.if_icmp .ne 29, 3) := by decide +kernel
theorem dL_build_283 : decode cL_build 283 = .ok (.aload_n 0, 1) := by decide +kernel
theorem dL_build_284 : decode cL_build 284 = .ok (.iload 7, 2) := by decide +kernel
theorem dL_build_286 : decode cL_build 286 = .ok (.iconst 1, 1) := by decide +kernel
theorem dL_build_287 : decode cL_build 287 = .ok (.invokevirtual 35, 3) := by decide +kernel
theorem dL_build_290 : decode cL_build 290 = .ok (.iload 10, 2) := by decide +kernel
theorem dL_build_292 : decode cL_build 292 = .ok (.if_icmp .ne 17, 3) := by decide +kernel
theorem dL_build_295 : decode cL_build 295 = .ok (.aload_n 0, 1) := by decide +kernel
theorem dL_build_296 : decode cL_build 296 = .ok (.iload 7, 2) := by decide +kernel
theorem dL_build_298 : decode cL_build 298 = .ok (.iconst 2, 1) := by decide +kernel
theorem dL_build_299 : decode cL_build 299 = .ok (.invokevirtual 35, 3) := by decide +kernel
theorem dL_build_302 : decode cL_build 302 = .ok (.ifCond .ne 7, 3) := by decide +kernel
theorem dL_build_305 : decode cL_build 305 = .ok (.iconst 1, 1) := by decide +kernel
theorem dL_build_306 : decode cL_build 306 = .ok (.goto 4, 3) := by decide +kernel
theorem dL_build_309 : decode cL_build 309 = .ok (.iconst 0, 1) := by decide +kernel
theorem dL_build_310 : decode cL_build 310 = .ok (.istore 6, 2) := by decide +kernel
theorem dL_build_312 : decode cL_build 312 = .ok (.iinc 7 1, 3) := by decide +kernel
theorem dL_build_315 : decode cL_build 315 = .ok (.goto (-131), 3) := by decide +kernel
theorem dL_build_318 : decode cL_build 318 = .ok (.iconst 0, 1) := by decide +kernel
theorem dL_build_319 : decode cL_build 319 = .ok (.istore 7, 2) := by decide +kernel
theorem dL_build_321 : decode cL_build 321 = .ok (.iload 7, 2) := by decide +kernel
theorem dL_build_323 : decode cL_build 323 = .ok (.iload 5, 2) := by decide +kernel
theorem dL_build_325 : decode cL_build 325 = .ok (.if_icmp .ge 187, 3) := by decide +kernel
theorem dL_build_328 : decode cL_build 328 = .ok (.iload 5, 2) := by decide +kernel
theorem dL_build_330 : decode cL_build 330 = .ok (.iconst 1, 1) := by decide +kernel
theorem dL_build_331 : decode cL_build 331 = .ok (.if_icmp .le 181, 3) := by decide +kernel
theorem dL_build_334 : decode cL_build 334 = .ok (.iload 6, 2) := by decide +kernel
theorem dL_build_336 : decode cL_build 336 = .ok (.ifCond .eq 176, 3) := by decide +kernel
theorem dL_build_339 : decode cL_build 339 = .ok (.aload_n 1, 1) := by decide +kernel
theorem dL_build_340 : decode cL_build 340 = .ok (.iload_n 2, 1) := by decide +kernel
theorem dL_build_341 : decode cL_build 341 = .ok (.bipush 9, 2) := by decide +kernel
theorem dL_build_343 : decode cL_build 343 = .ok (.iadd, 1) := by decide +kernel
theorem dL_build_344 : decode cL_build 344 = .ok (.iload 7, 2) := by decide +kernel
theorem dL_build_346 : decode cL_build 346 = .ok (.iadd, 1) := by decide +kernel
theorem dL_build_347 : decode cL_build 347 = .ok (.invokestatic 10, 3) := by decide +kernel
theorem dL_build_350 : decode cL_build 350 = .ok (.iload_n 3, 1) := by decide +kernel
theorem dL_build_351 : decode cL_build 351 = .ok (.iconst 1, 1) := by decide +kernel
theorem dL_build_352 : decode cL_build 352 = .ok (.iadd, 1) := by decide +kernel
theorem dL_build_353 : decode cL_build 353 = .ok (.invokestatic 16, 3) := by decide +kernel
theorem dL_build_356 : decode cL_build 356 = .ok (.istore 8, 2) := by decide +kernel
theorem dL_build_358 : decode cL_build 358 = .ok (.iconst 0, 1) := by decide +kernel
theorem dL_build_359 : decode cL_build 359 = .ok (.istore 9, 2) := by decide +kernel
theorem dL_build_361 : decode cL_build 361 = .ok (.iload 9, 2) := by decide +kernel
theorem dL_build_363 : decode cL_build 363 = .ok (.iload 8, 2) := by decide +kernel
theorem dL_build_365 : decode cL_build 365 = .ok (.if_icmp .ge 141, 3) := by decide +kernel
theorem dL_build_368 : decode cL_build 368 = .ok (.iload 6, 2) := by decide +kernel
theorem dL_build_370 : decode cL_build 370 = .ok (.ifCond .eq 136, 3) := by decide +kernel
theorem dL_build_373 : decode cL_build 373 = .ok (.aload_n 1, 1) := by decide +kernel
theorem dL_build_374 : decode cL_build 374 = .ok (.iload_n 2, 1) := by decide +kernel
theorem dL_build_375 : decode cL_build 375 = .ok (.bipush 17, 2) := by decide +kernel
theorem dL_build_377 : decode cL_build 377 = .ok (.iadd, 1) := by decide +kernel
theorem dL_build_378 : decode cL_build 378 = .ok (.iconst 4, 1) := by decide +kernel
theorem dL_build_379 : decode cL_build 379 = .ok (.iload 7, 2) := by decide +kernel
theorem dL_build_381 : decode cL_build 381 = .ok (.imul, 1) := by decide +kernel
theorem dL_build_382 : decode cL_build 382 = .ok (.iadd, 1) := by decide +kernel
theorem dL_build_383 : decode cL_build 383 = .ok (.iload 9, 2) := by decide +kernel
theorem dL_build_385 : decode cL_build 385 = .ok (.iadd, 1) := by decide +kernel
theorem dL_build_386 : decode cL_build 386 = .ok (.invokestatic 10, 3) := by decide +kernel
theorem dL_build_389 : decode cL_build 389 = .ok (.istore 10, 2) := by decide +kernel
theorem dL_build_391 : decode cL_build 391 = .ok (.iload 7, 2) := by decide +kernel
theorem dL_build_393 : decode cL_build 393 = .ok (.iconst 1, 1) := by decide +kernel
theorem dL_build_394 : decode cL_build 394 = .ok (.iadd, 1) := by decide +kernel
theorem dL_build_395 : decode cL_build 395 = .ok (.iload 10, 2) := by decide +kernel
theorem dL_build_397 : decode cL_build 397 = .ok (.iload 5, 2) := by decide +kernel
theorem dL_build_399 : decode cL_build 399 = .ok (.iconst 1, 1) := by decide +kernel
theorem dL_build_400 : decode cL_build 400 = .ok (.isub, 1) := by decide +kernel
theorem dL_build_401 : decode cL_build 401 = .ok (.invokestatic 16, 3) := by decide +kernel
theorem dL_build_404 : decode cL_build 404 = .ok (.iadd, 1) := by decide +kernel
theorem dL_build_405 : decode cL_build 405 = .ok (.iload 5, 2) := by decide +kernel
theorem dL_build_407 : decode cL_build 407 = .ok (.irem, 1) := by decide +kernel
theorem dL_build_408 : decode cL_build 408 = .ok (.istore 11, 2) := by decide +kernel
theorem dL_build_410 : decode cL_build 410 = .ok (.iload 10, 2) := by decide +kernel
theorem dL_build_412 : decode cL_build 412 = .ok (.iconst 4, 1) := by decide +kernel
theorem dL_build_413 : decode cL_build 413 = .ok (.ishr, 1) := by decide +kernel
theorem dL_build_414 : decode cL_build 414 = .ok (.iconst 5, 1) := by decide +kernel
theorem dL_build_415 : decode cL_build 415 = .ok (.invokestatic 16, 3) := by decide +kernel
theorem dL_build_418 : decode cL_build 418 = .ok (.ifCond .ne 7, 3) := by decide +kernel
theorem dL_build_421 : decode cL_build 421 = .ok (.iconst 0, 1) := by decide +kernel
theorem dL_build_422 : decode cL_build 422 = .ok (.goto 24, 3) := by decide +kernel
theorem dL_build_425 : decode cL_build 425 = .ok (.iload 10, 2) := by decide +kernel
theorem dL_build_427 : decode cL_build 427 = .ok (.bipush 7, 2) := by decide +kernel
theorem dL_build_429 : decode cL_build 429 = .ok (.ishr, 1) := by decide +kernel
theorem dL_build_430 : decode cL_build 430 = .ok (.bipush 64, 2) := by decide +kernel
theorem dL_build_432 : decode cL_build 432 = .ok (.invokestatic 16, 3) := by decide +kernel
theorem dL_build_435 : decode cL_build 435 = .ok (.iload 10, 2) := by decide +kernel
theorem dL_build_437 : decode cL_build 437 = .ok (.bipush 13, 2) := by decide +kernel
theorem dL_build_439 : decode cL_build 439 = .ok (.ishr, 1) := by decide +kernel
theorem dL_build_440 : decode cL_build 440 = .ok (.bipush 64, 2) := by decide +kernel
theorem dL_build_442 : decode cL_build 442 = .ok (.invokestatic 16, 3) := by decide +kernel
theorem dL_build_445 : decode cL_build 445 = .ok (.iand, 1) := by decide +kernel
theorem dL_build_446 : decode cL_build 446 = .ok (.istore 12, 2) := by decide +kernel
theorem dL_build_448 : decode cL_build 448 = .ok (.aload_n 0, 1) := by decide +kernel
theorem dL_build_449 : decode cL_build 449 = .ok (.iload 7, 2) := by decide +kernel
theorem dL_build_451 : decode cL_build 451 = .ok (.iload 11, 2) := by decide +kernel
theorem dL_build_453 : decode cL_build 453 = .ok (.iload 12, 2) := by decide +kernel
theorem dL_build_455 : decode cL_build 455 = .ok (.invokevirtual 38, 3) := by decide +kernel
theorem dL_build_458 : decode cL_build 458 = .ok (.iload 9, 2) := by decide +kernel
theorem dL_build_460 : decode cL_build 460 = .ok (.iconst 1, 1) := by decide +kernel
theorem dL_build_461 : decode cL_build 461 = .ok (.iadd, 1) := by decide +kernel
theorem dL_build_462 : decode cL_build 462 = .ok (.if_icmp .ne 35, 3) := by decide +kernel
theorem dL_build_465 : decode cL_build 465 = .ok (.aload_n 0, 1) := by decide +kernel
theorem dL_build_466 : decode cL_build 466 = .ok (.iload 7, 2) := by decide +kernel
theorem dL_build_468 : decode cL_build 468 = .ok (.iload 9, 2) := by decide +kernel
theorem dL_build_470 : decode cL_build 470 = .ok (.iconst 0, 1) := by decide +kernel
theorem dL_build_471 : decode cL_build 471 = .ok (.invokevirtual 42, 3) := by decide +kernel
theorem dL_build_474 : decode cL_build 474 = .ok (.iload 11, 2) := by decide +kernel
theorem dL_build_476 : decode cL_build 476 = .ok (.if_icmp .ne 21, 3) := by decide +kernel
theorem dL_build_479 : decode cL_build 479 = .ok (.aload_n 0, 1) := by decide +kernel
theorem dL_build_480 : decode cL_build 480 = .ok (.iload 7, 2) := by decide +kernel
theorem dL_build_482 : decode cL_build 482 = .ok (.iload 9, 2) := by decide +kernel
theorem dL_build_484 : decode cL_build 484 = .ok (.iconst 1, 1) := by decide +kernel
theorem dL_build_485 : decode cL_build 485 = .ok (.invokevirtual 42, 3) := by decide +kernel
theorem dL_build_488 : decode cL_build 488 = .ok (.iload 12, 2) := by decide +kernel
theorem dL_build_490 : decode cL_build 490 = .ok (.if_icmp .ne 7, 3) := by decide +kernel
theorem dL_build_493 : decode cL_build 493 = .ok (.iconst 1, 1) := by decide +kernel
theorem dL_build_494 : decode cL_build 494 = .ok (.goto 4, 3) := by decide +kernel
theorem dL_build_497 : decode cL_build 497 = .ok (.iconst 0, 1) := by decide +kernel
theorem dL_build_498 : decode cL_build 498 = .ok (.istore 6, 2) := by decide +kernel
theorem dL_build_500 : decode cL_build 500 = .ok (.iinc 9 1, 3) := by decide +kernel
theorem dL_build_503 : decode cL_build 503 = .ok (.goto (-142), 3) := by decide +kernel
theorem dL_build_506 : decode cL_build 506 = .ok (.iinc 7 1, 3) := by decide +kernel
theorem dL_build_509 : decode cL_build 509 = .ok (.goto (-188), 3) := by decide +kernel
theorem dL_build_512 : decode cL_build 512 = .ok (.iload 6, 2) := by decide +kernel
theorem dL_build_514 : decode cL_build 514 = .ok (.ifCond .eq 25, 3) := by decide +kernel
theorem dL_build_517 : decode cL_build 517 = .ok (.aload_n 0, 1) := by decide +kernel
theorem dL_build_518 : decode cL_build 518 = .ok (.iconst 0, 1) := by decide +kernel
theorem dL_build_519 : decode cL_build 519 = .ok (.invokevirtual 45, 3) := by decide +kernel
theorem dL_build_522 : decode cL_build 522 = .ok (.iload 5, 2) := by decide +kernel
theorem dL_build_524 : decode cL_build 524 = .ok (.if_icmp .ne 15, 3) := by decide +kernel
theorem dL_build_527 : decode cL_build 527 = .ok (.aload_n 0, 1) := by decide +kernel
theorem dL_build_528 : decode cL_build 528 = .ok (.iconst 1, 1) := by decide +kernel
theorem dL_build_529 : decode cL_build 529 = .ok (.invokevirtual 45, 3) := by decide +kernel
theorem dL_build_532 : decode cL_build 532 = .ok (.ifCond .ne 7, 3) := by decide +kernel
theorem dL_build_535 : decode cL_build 535 = .ok (.iconst 1, 1) := by decide +kernel
theorem dL_build_536 : decode cL_build 536 = .ok (.goto 4, 3) := by decide +kernel
theorem dL_build_539 : decode cL_build 539 = .ok (.iconst 0, 1) := by decide +kernel
theorem dL_build_540 : decode cL_build 540 = .ok (.ireturn, 1) := by decide +kernel
