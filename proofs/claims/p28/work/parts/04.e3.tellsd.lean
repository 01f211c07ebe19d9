theorem dL_tells_0 : decode cL_tells 0 = .ok (.iconst 0, 1) := by decide +kernel
theorem dL_tells_1 : decode cL_tells 1 = .ok (.istore 4, 2) := by decide +kernel
theorem dL_tells_3 : decode cL_tells 3 = .ok (.aload_n 0, 1) := by decide +kernel
theorem dL_tells_4 : decode cL_tells 4 = .ok (.aload_n 1, 1) := by decide +kernel
theorem dL_tells_5 : decode cL_tells 5 = .ok (.invokestatic 48, 3) := by decide +kernel
theorem dL_tells_8 : decode cL_tells 8 = .ok (.istore 5, 2) := by decide +kernel
theorem dL_tells_10 : decode cL_tells 10 = .ok (.iconst 0, 1) := by decide +kernel
theorem dL_tells_11 : decode cL_tells 11 = .ok (.istore 6, 2) := by decide +kernel
theorem dL_tells_13 : decode cL_tells 13 = .ok (.iload 6, 2) := by decide +kernel
theorem dL_tells_15 : decode cL_tells 15 = .ok (.bipush 6, 2) := by decide +kernel
theorem dL_tells_17 : decode cL_tells 17 = .ok (.if_icmp .ge 173, 3) := by decide +kernel
theorem dL_tells_20 : decode cL_tells 20 = .ok (.iload 4, 2) := by decide +kernel
theorem dL_tells_22 : decode cL_tells 22 = .ok (.aload_n 2, 1) := by decide +kernel
theorem dL_tells_23 : decode cL_tells 23 = .ok (.iload 6, 2) := by decide +kernel
theorem dL_tells_25 : decode cL_tells 25 = .ok (.iaload, 1) := by decide +kernel
theorem dL_tells_26 : decode cL_tells 26 = .ok (.ifCond .lt 10, 3) := by decide +kernel
theorem dL_tells_29 : decode cL_tells 29 = .ok (.iconst 1, 1) := by decide +kernel
theorem dL_tells_30 : decode cL_tells 30 = .ok (.iload 6, 2) := by decide +kernel
theorem dL_tells_32 : decode cL_tells 32 = .ok (.ishl, 1) := by decide +kernel
theorem dL_tells_33 : decode cL_tells 33 = .ok (.goto 4, 3) := by decide +kernel
theorem dL_tells_36 : decode cL_tells 36 = .ok (.iconst 0, 1) := by decide +kernel
theorem dL_tells_37 : decode cL_tells 37 = .ok (.ior, 1) := by decide +kernel
theorem dL_tells_38 : decode cL_tells 38 = .ok (.istore 4, 2) := by decide +kernel
theorem dL_tells_40 : decode cL_tells 40 = .ok (.iconst 0, 1) := by decide +kernel
theorem dL_tells_41 : decode cL_tells 41 = .ok (.istore 7, 2) := by decide +kernel
theorem dL_tells_43 : decode cL_tells 43 = .ok (.iconst 0, 1) := by decide +kernel
theorem dL_tells_44 : decode cL_tells 44 = .ok (.istore 8, 2) := by decide +kernel
theorem dL_tells_46 : decode cL_tells 46 = .ok (.iload 8, 2) := by decide +kernel
theorem dL_tells_48 : decode cL_tells 48 = .ok (.aload_n 0, 1) := by decide +kernel
theorem dL_tells_49 : decode cL_tells 49 = .ok (.iconst 0, 1) := by decide +kernel
theorem dL_tells_50 : decode cL_tells 50 = .ok (.invokevirtual 45, 3) := by decide +kernel
theorem dL_tells_53 : decode cL_tells 53 = .ok (.if_icmp .ge 29, 3) := by decide +kernel
theorem dL_tells_56 : decode cL_tells 56 = .ok (.iload 7, 2) := by decide +kernel
theorem dL_tells_58 : decode cL_tells 58 = .ok (.aload_n 0, 1) := by decide +kernel
theorem dL_tells_59 : decode cL_tells 59 = .ok (.iload 8, 2) := by decide +kernel
theorem dL_tells_61 : decode cL_tells 61 = .ok (.iconst 0, 1) := by decide +kernel
theorem dL_tells_62 : decode cL_tells 62 = .ok (.invokevirtual 35, 3) := by decide +kernel
theorem dL_tells_65 : decode cL_tells 65 = .ok (.iload 6, 2) := by decide +kernel
theorem dL_tells_67 : decode cL_tells 67 = .ok (.ishr, 1) := by decide +kernel
theorem dL_tells_68 : decode cL_tells 68 = .ok (.iconst 1, 1) := by decide +kernel
theorem dL_tells_69 : decode cL_tells 69 = .ok (.iand, 1) := by decide +kernel
theorem dL_tells_70 : decode cL_tells 70 = .ok (.iload 8, 2) := by decide +kernel
theorem dL_tells_72 : decode cL_tells 72 = .ok (.ishl, 1) := by decide +kernel
theorem dL_tells_73 : decode cL_tells 73 = .ok (.ior, 1) := by decide +kernel
theorem dL_tells_74 : decode cL_tells 74 = .ok (.istore 7, 2) := by decide +kernel
theorem dL_tells_76 : decode cL_tells 76 = .ok (.iinc 8 1, 3) := by decide +kernel
theorem dL_tells_79 : decode cL_tells 79 = .ok (.goto (-33), 3) := by decide +kernel
theorem dL_tells_82 : decode cL_tells 82 = .ok (.aload_n 0, 1) := by decide +kernel
theorem dL_tells_83 : decode cL_tells 83 = .ok (.iload 6, 2) := by decide +kernel
theorem dL_tells_85 : decode cL_tells 85 = .ok (.iconst 0, 1) := by decide +kernel
theorem dL_tells_86 : decode cL_tells 86 = .ok (.invokevirtual 26, 3) := by decide +kernel
theorem dL_tells_89 : decode cL_tells 89 = .ok (.iload 5, 2) := by decide +kernel
theorem dL_tells_91 : decode cL_tells 91 = .ok (.iload 6, 2) := by decide +kernel
theorem dL_tells_93 : decode cL_tells 93 = .ok (.ishr, 1) := by decide +kernel
theorem dL_tells_94 : decode cL_tells 94 = .ok (.iconst 1, 1) := by decide +kernel
theorem dL_tells_95 : decode cL_tells 95 = .ok (.iand, 1) := by decide +kernel
theorem dL_tells_96 : decode cL_tells 96 = .ok (.if_icmp .ne 78, 3) := by decide +kernel
theorem dL_tells_99 : decode cL_tells 99 = .ok (.aload_n 0, 1) := by decide +kernel
theorem dL_tells_100 : decode cL_tells 100 = .ok (.iload 6, 2) := by decide +kernel
theorem dL_tells_102 : decode cL_tells 102 = .ok (.iconst 1, 1) := by decide +kernel
theorem dL_tells_103 : decode cL_tells 103 = .ok (.invokevirtual 26, 3) := by decide +kernel
theorem dL_tells_106 : decode cL_tells 106 = .ok (.aload_n 2, 1) := by decide +kernel
theorem dL_tells_107 : decode cL_tells 107 = .ok (.iload 6, 2) := by decide +kernel
theorem dL_tells_109 : decode cL_tells 109 = .ok (.iaload, 1) := by decide +kernel
theorem dL_tells_110 : decode cL_tells 110 = .ok (.ifCond .ge 7, 3) := by decide +kernel
theorem dL_tells_113 : decode cL_tells 113 = .ok (.iconst (-1), 1) := by decide +kernel
theorem dL_tells_114 : decode cL_tells 114 = .ok (.goto 7, 3) := by decide +kernel
theorem dL_tells_117 : decode cL_tells 117 = .ok (.aload_n 2, 1) := by decide +kernel
theorem dL_tells_118 : decode cL_tells 118 = .ok (.iload 6, 2) := by decide +kernel
theorem dL_tells_120 : decode cL_tells 120 = .ok (.iaload, 1) := by decide +kernel
theorem dL_tells_121 : decode cL_tells 121 = .ok (.if_icmp .ne 53, 3) := by decide +kernel
theorem dL_tells_124 : decode cL_tells 124 = .ok (.aload_n 0, 1) := by decide +kernel
theorem dL_tells_125 : decode cL_tells 125 = .ok (.iload 6, 2) := by decide +kernel
theorem dL_tells_127 : decode cL_tells 127 = .ok (.iconst 3, 1) := by decide +kernel
theorem dL_tells_128 : decode cL_tells 128 = .ok (.invokevirtual 26, 3) := by decide +kernel
theorem dL_tells_131 : decode cL_tells 131 = .ok (.aload_n 2, 1) := by decide +kernel
theorem dL_tells_132 : decode cL_tells 132 = .ok (.bipush 6, 2) := by decide +kernel
theorem dL_tells_134 : decode cL_tells 134 = .ok (.iload 6, 2) := by decide +kernel
theorem dL_tells_136 : decode cL_tells 136 = .ok (.iadd, 1) := by decide +kernel
theorem dL_tells_137 : decode cL_tells 137 = .ok (.iaload, 1) := by decide +kernel
theorem dL_tells_138 : decode cL_tells 138 = .ok (.if_icmp .ne 36, 3) := by decide +kernel
theorem dL_tells_141 : decode cL_tells 141 = .ok (.aload_n 0, 1) := by decide +kernel
theorem dL_tells_142 : decode cL_tells 142 = .ok (.iload 6, 2) := by decide +kernel
theorem dL_tells_144 : decode cL_tells 144 = .ok (.iconst 4, 1) := by decide +kernel
theorem dL_tells_145 : decode cL_tells 145 = .ok (.invokevirtual 26, 3) := by decide +kernel
theorem dL_tells_148 : decode cL_tells 148 = .ok (.aload_n 2, 1) := by decide +kernel
theorem dL_tells_149 : decode cL_tells 149 = .ok (.bipush 12, 2) := by decide +kernel
theorem dL_tells_151 : decode cL_tells 151 = .ok (.iload 6, 2) := by decide +kernel
theorem dL_tells_153 : decode cL_tells 153 = .ok (.iadd, 1) := by decide +kernel
theorem dL_tells_154 : decode cL_tells 154 = .ok (.iaload, 1) := by decide +kernel
theorem dL_tells_155 : decode cL_tells 155 = .ok (.if_icmp .ne 19, 3) := by decide +kernel
theorem dL_tells_158 : decode cL_tells 158 = .ok (.aload_n 0, 1) := by decide +kernel
theorem dL_tells_159 : decode cL_tells 159 = .ok (.iload 6, 2) := by decide +kernel
theorem dL_tells_161 : decode cL_tells 161 = .ok (.iconst 5, 1) := by decide +kernel
theorem dL_tells_162 : decode cL_tells 162 = .ok (.invokevirtual 26, 3) := by decide +kernel
theorem dL_tells_165 : decode cL_tells 165 = .ok (.iload 7, 2) := by decide +kernel
theorem dL_tells_167 : decode cL_tells 167 = .ok (.if_icmp .ne 7, 3) := by decide +kernel
theorem dL_tells_170 : decode cL_tells 170 = .ok (.iconst 1, 1) := by decide +kernel
theorem dL_tells_171 : decode cL_tells 171 = .ok (.goto 4, 3) := by decide +kernel
theorem dL_tells_174 : decode cL_tells 174 = .ok (.iconst 0, 1) := by decide +kernel
theorem dL_tells_175 : decode cL_tells 175 = .ok (.istore 8, 2) := by decide +kernel
theorem dL_tells_177 : decode cL_tells 177 = .ok (.iload 8, 2) := by decide +kernel
theorem dL_tells_179 : decode cL_tells 179 = .ok (.ifCond .ne 5, 3) := by decide +kernel
theorem dL_tells_182 : decode cL_tells 182 = .ok (.iconst 0, 1) := by decide +kernel
theorem dL_tells_183 : decode cL_tells 183 = .ok (.ireturn, 1) := by decide +kernel
theorem dL_tells_184 : decode cL_tells 184 = .ok (.iinc 6 1, 3) := by decide +kernel
theorem dL_tells_187 : decode cL_tells 187 = .ok (.goto (-174), 3) := by decide +kernel
theorem dL_tells_190 : decode cL_tells 190 = .ok (.iconst 0, 1) := by decide +kernel
theorem dL_tells_191 : decode cL_tells 191 = .ok (.istore 6, 2) := by decide +kernel
theorem dL_tells_193 : decode cL_tells 193 = .ok (.iload 6, 2) := by decide +kernel
theorem dL_tells_195 : decode cL_tells 195 = .ok (.aload_n 0, 1) := by decide +kernel
theorem dL_tells_196 : decode cL_tells 196 = .ok (.iconst 0, 1) := by decide +kernel
theorem dL_tells_197 : decode cL_tells 197 = .ok (.invokevirtual 45, 3) := by decide +kernel
theorem dL_tells_200 : decode cL_tells 200 = .ok (.if_icmp .ge 114, 3) := by decide +kernel
theorem dL_tells_203 : decode cL_tells 203 = .ok (.aload_n 0, 1) := by decide +kernel
theorem dL_tells_204 : decode cL_tells 204 = .ok (.iload 6, 2) := by decide +kernel
theorem dL_tells_206 : decode cL_tells 206 = .ok (.iconst 5, 1) := by decide +kernel
theorem dL_tells_207 : decode cL_tells 207 = .ok (.invokevirtual 35, 3) := by decide +kernel
theorem dL_tells_210 : decode cL_tells 210 = .ok (.aload_n 3, 1) := by decide +kernel
theorem dL_tells_211 : decode cL_tells 211 = .ok (.iload 6, 2) := by decide +kernel
theorem dL_tells_213 : decode cL_tells 213 = .ok (.iaload, 1) := by decide +kernel
theorem dL_tells_214 : decode cL_tells 214 = .ok (.if_icmp .ne 7, 3) := by decide +kernel
theorem dL_tells_217 : decode cL_tells 217 = .ok (.iconst 1, 1) := by decide +kernel
theorem dL_tells_218 : decode cL_tells 218 = .ok (.goto 4, 3) := by decide +kernel
theorem dL_tells_221 : decode cL_tells 221 = .ok (.iconst 0, 1) := by decide +kernel
theorem dL_tells_222 : decode cL_tells 222 = .ok (.istore 7, 2) := by decide +kernel
theorem dL_tells_224 : decode cL_tells 224 = .ok (.iconst 0, 1) := by decide +kernel
theorem dL_tells_225 : decode cL_tells 225 = .ok (.istore 8, 2) := by decide +kernel
theorem dL_tells_227 : decode cL_tells 227 = .ok (.iload 8, 2) := by decide +kernel
theorem dL_tells_229 : decode cL_tells 229 = .ok (.aload_n 0, 1) := by decide +kernel
theorem dL_tells_230 : decode cL_tells 230 = .ok (.iload 6, 2) := by decide +kernel
theorem dL_tells_232 : decode cL_tells 232 = .ok (.iconst 2, 1) := by decide +kernel
theorem dL_tells_233 : decode cL_tells 233 = .ok (.invokevirtual 35, 3) := by decide +kernel
theorem dL_tells_236 : decode cL_tells 236 = .ok (.if_icmp .ge 65, 3) := by decide +kernel
theorem dL_tells_239 : decode cL_tells 239 = .ok (.iload 7, 2) := by decide +kernel
theorem dL_tells_241 : decode cL_tells 241 = .ok (.ifCond .eq 51, 3) := by decide +kernel
theorem dL_tells_244 : decode cL_tells 244 = .ok (.aload_n 0, 1) := by decide +kernel
theorem dL_tells_245 : decode cL_tells 245 = .ok (.iload 6, 2) := by decide +kernel
theorem dL_tells_247 : decode cL_tells 247 = .ok (.iload 8, 2) := by decide +kernel
theorem dL_tells_249 : decode cL_tells 249 = .ok (.iconst 2, 1) := by decide +kernel
theorem dL_tells_250 : decode cL_tells 250 = .ok (.invokevirtual 42, 3) := by decide +kernel
theorem dL_tells_253 : decode cL_tells 253 = .ok (.aload_n 0, 1) := by decide +kernel
theorem dL_tells_254 : decode cL_tells 254 = .ok (.iload 6, 2) := by decide +kernel
theorem dL_tells_256 : decode cL_tells 256 = .ok (.iload 8, 2) := by decide +kernel
theorem dL_tells_258 : decode cL_tells 258 = .ok (.iconst 1, 1) := by decide +kernel
theorem dL_tells_259 : decode cL_tells 259 = .ok (.invokevirtual 42, 3) := by decide +kernel
theorem dL_tells_262 : decode cL_tells 262 = .ok (.ifCond .eq 18, 3) := by decide +kernel
theorem dL_tells_265 : decode cL_tells 265 = .ok (.aload_n 0, 1) := by decide +kernel
theorem dL_tells_266 : decode cL_tells 266 = .ok (.iload 6, 2) := by decide +kernel
theorem dL_tells_268 : decode cL_tells 268 = .ok (.iload 8, 2) := by decide +kernel
theorem dL_tells_270 : decode cL_tells 270 = .ok (.iconst 1, 1) := by decide +kernel
theorem dL_tells_271 : decode cL_tells 271 = .ok (.invokevirtual 42, 3) := by decide +kernel
theorem dL_tells_274 : decode cL_tells 274 = .ok (.iload 4, 2) := by decide +kernel
theorem dL_tells_276 : decode cL_tells 276 = .ok (.iand, 1) := by decide +kernel
theorem dL_tells_277 : decode cL_tells 277 = .ok (.ifCond .eq 7, 3) := by decide +kernel
theorem dL_tells_280 : decode cL_tells 280 = .ok (.iconst 1, 1) := by decide +kernel
theorem dL_tells_281 : decode cL_tells 281 = .ok (.goto 4, 3) := by decide +kernel
theorem dL_tells_284 : decode cL_tells 284 = .ok (.iconst 0, 1) := by decide +kernel
theorem dL_tells_285 : decode cL_tells 285 = .ok (.if_icmp .ne 7, 3) := by decide +kernel
theorem dL_tells_288 : decode cL_tells 288 = .ok (.iconst 1, 1) := by decide +kernel
theorem dL_tells_289 : decode cL_tells 289 = .ok (.goto 4, 3) := by decide +kernel
theorem dL_tells_292 : decode cL_tells 292 = .ok (.iconst 0, 1) := by decide +kernel
theorem dL_tells_293 : decode cL_tells 293 = .ok (.istore 7, 2) := by decide +kernel
theorem dL_tells_295 : decode cL_tells 295 = .ok (.iinc 8 1, 3) := by decide +kernel
theorem dL_tells_298 : decode cL_tells 298 = .ok (.goto (-71), 3) := by decide +kernel
theorem dL_tells_301 : decode cL_tells 301 = .ok (.iload 7, 2) := by decide +kernel
theorem dL_tells_303 : decode cL_tells 303 = .ok (.ifCond .ne 5, 3) := by decide +kernel
theorem dL_tells_306 : decode cL_tells 306 = .ok (.iconst 0, 1) := by decide +kernel
theorem dL_tells_307 : decode cL_tells 307 = .ok (.ireturn, 1) := by decide +kernel
theorem dL_tells_308 : decode cL_tells 308 = .ok (.iinc 6 1, 3) := by decide +kernel
theorem dL_tells_311 : decode cL_tells 311 = .ok (.goto (-118), 3) := by decide +kernel
theorem dL_tells_314 : decode cL_tells 314 = .ok (.aload_n 0, 1) := by decide +kernel
theorem dL_tells_315 : decode cL_tells 315 = .ok (.iconst 1, 1) := by decide +kernel
theorem dL_tells_316 : decode cL_tells 316 = .ok (.invokevirtual 45, 3) := by decide +kernel
theorem dL_tells_319 : decode cL_tells 319 = .ok (.aload_n 1, 1) := by decide +kernel
theorem dL_tells_320 : decode cL_tells 320 = .ok (.iconst 0, 1) := by decide +kernel
theorem dL_tells_321 : decode cL_tells 321 = .ok (.iaload, 1) := by decide +kernel
theorem dL_tells_322 : decode cL_tells 322 = .ok (.if_icmp .ne 71, 3) := by decide +kernel
theorem dL_tells_325 : decode cL_tells 325 = .ok (.aload_n 0, 1) := by decide +kernel
theorem dL_tells_326 : decode cL_tells 326 = .ok (.iconst 2, 1) := by decide +kernel
theorem dL_tells_327 : decode cL_tells 327 = .ok (.invokevirtual 45, 3) := by decide +kernel
theorem dL_tells_330 : decode cL_tells 330 = .ok (.aload_n 1, 1) := by decide +kernel
theorem dL_tells_331 : decode cL_tells 331 = .ok (.iconst 2, 1) := by decide +kernel
theorem dL_tells_332 : decode cL_tells 332 = .ok (.iaload, 1) := by decide +kernel
theorem dL_tells_333 : decode cL_tells 333 = .ok (.ifCond .le 7, 3) := by decide +kernel
theorem dL_tells_336 : decode cL_tells 336 = .ok (.iconst (-1), 1) := by decide +kernel
theorem dL_tells_337 : decode cL_tells 337 = .ok (.goto 6, 3) := by decide +kernel
theorem dL_tells_340 : decode cL_tells 340 = .ok (.aload_n 1, 1) := by decide +kernel
theorem dL_tells_341 : decode cL_tells 341 = .ok (.iconst 1, 1) := by decide +kernel
theorem dL_tells_342 : decode cL_tells 342 = .ok (.iaload, 1) := by decide +kernel
theorem dL_tells_343 : decode cL_tells 343 = .ok (.if_icmp .ne 50, 3) := by decide +kernel
theorem dL_tells_346 : decode cL_tells 346 = .ok (.aload_n 0, 1) := by decide +kernel
theorem dL_tells_347 : decode cL_tells 347 = .ok (.iconst 3, 1) := by decide +kernel
theorem dL_tells_348 : decode cL_tells 348 = .ok (.invokevirtual 45, 3) := by decide +kernel
theorem dL_tells_351 : decode cL_tells 351 = .ok (.aload_n 1, 1) := by decide +kernel
theorem dL_tells_352 : decode cL_tells 352 = .ok (.iconst 2, 1) := by decide +kernel
theorem dL_tells_353 : decode cL_tells 353 = .ok (.iaload, 1) := by decide +kernel
theorem dL_tells_354 : decode cL_tells 354 = .ok (.if_icmp .ne 39, 3) := by decide +kernel
theorem dL_tells_357 : decode cL_tells 357 = .ok (.aload_n 0, 1) := by decide +kernel
theorem dL_tells_358 : decode cL_tells 358 = .ok (.iconst 4, 1) := by decide +kernel
theorem dL_tells_359 : decode cL_tells 359 = .ok (.invokevirtual 45, 3) := by decide +kernel
theorem dL_tells_362 : decode cL_tells 362 = .ok (.iload 5, 2) := by decide +kernel
theorem dL_tells_364 : decode cL_tells 364 = .ok (.if_icmp .ne 29, 3) := by decide +kernel
theorem dL_tells_367 : decode cL_tells 367 = .ok (.aload_n 0, 1) := by decide +kernel
theorem dL_tells_368 : decode cL_tells 368 = .ok (.iconst 5, 1) := by decide +kernel
theorem dL_tells_369 : decode cL_tells 369 = .ok (.invokevirtual 45, 3) := by decide +kernel
theorem dL_tells_372 : decode cL_tells 372 = .ok (.iload 4, 2) := by decide +kernel
theorem dL_tells_374 : decode cL_tells 374 = .ok (.if_icmp .ne 19, 3) := by decide +kernel
theorem dL_tells_377 : decode cL_tells 377 = .ok (.aload_n 0, 1) := by decide +kernel
theorem dL_tells_378 : decode cL_tells 378 = .ok (.bipush 9, 2) := by decide +kernel
theorem dL_tells_380 : decode cL_tells 380 = .ok (.invokevirtual 45, 3) := by decide +kernel
theorem dL_tells_383 : decode cL_tells 383 = .ok (.aload_n 1, 1) := by decide +kernel
theorem dL_tells_384 : decode cL_tells 384 = .ok (.iconst 4, 1) := by decide +kernel
theorem dL_tells_385 : decode cL_tells 385 = .ok (.iaload, 1) := by decide +kernel
theorem dL_tells_386 : decode cL_tells 386 = .ok (.if_icmp .ne 7, 3) := by decide +kernel
theorem dL_tells_389 : decode cL_tells 389 = .ok (.iconst 1, 1) := by decide +kernel
theorem dL_tells_390 : decode cL_tells 390 = .ok (.goto 4, 3) := by decide +kernel
theorem dL_tells_393 : decode cL_tells 393 = .ok (.iconst 0, 1) := by decide +kernel
theorem dL_tells_394 : decode cL_tells 394 = .ok (.ireturn, 1) := by decide +kernel
