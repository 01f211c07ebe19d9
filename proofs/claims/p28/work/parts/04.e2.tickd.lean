theorem dL_tick_0 : decode cL_tick 0 = .ok (.aload_n 0, 1) := by decide +kernel
theorem dL_tick_1 : decode cL_tick 1 = .ok (.aload_n 2, 1) := by decide +kernel
theorem dL_tick_2 : decode cL_tick 2 = .ok (.invokestatic 48, 3) := by decide +kernel
theorem dL_tick_5 : decode cL_tick 5 = .ok (.istore 5, 2) := by decide +kernel
theorem dL_tick_7 : decode cL_tick 7 = .ok (.aload_n 2, 1) := by decide +kernel
theorem dL_tick_8 : decode cL_tick 8 = .ok (.iconst 4, 1) := by decide +kernel
theorem dL_tick_9 : decode cL_tick 9 = .ok (.dup2, 1) := by decide +kernel
theorem dL_tick_10 : decode cL_tick 10 = .ok (.iaload, 1) := by decide +kernel
theorem dL_tick_11 : decode cL_tick 11 = .ok (.iconst 1, 1) := by decide +kernel
theorem dL_tick_12 : decode cL_tick 12 = .ok (.iadd, 1) := by decide +kernel
theorem dL_tick_13 : decode cL_tick 13 = .ok (.iastore, 1) := by decide +kernel
theorem dL_tick_14 : decode cL_tick 14 = .ok (.iconst 0, 1) := by decide +kernel
theorem dL_tick_15 : decode cL_tick 15 = .ok (.istore 6, 2) := by decide +kernel
theorem dL_tick_17 : decode cL_tick 17 = .ok (.iload 6, 2) := by decide +kernel
theorem dL_tick_19 : decode cL_tick 19 = .ok (.bipush 6, 2) := by decide +kernel
theorem dL_tick_21 : decode cL_tick 21 = .ok (.if_icmp .ge 113, 3) := by decide +kernel
theorem dL_tick_24 : decode cL_tick 24 = .ok (.aload_n 3, 1) := by decide +kernel
theorem dL_tick_25 : decode cL_tick 25 = .ok (.iload 6, 2) := by decide +kernel
theorem dL_tick_27 : decode cL_tick 27 = .ok (.iaload, 1) := by decide +kernel
theorem dL_tick_28 : decode cL_tick 28 = .ok (.ifCond .lt 100, 3) := by decide +kernel
theorem dL_tick_31 : decode cL_tick 31 = .ok (.iload 5, 2) := by decide +kernel
theorem dL_tick_33 : decode cL_tick 33 = .ok (.iload 6, 2) := by decide +kernel
theorem dL_tick_35 : decode cL_tick 35 = .ok (.ishr, 1) := by decide +kernel
theorem dL_tick_36 : decode cL_tick 36 = .ok (.iconst 1, 1) := by decide +kernel
theorem dL_tick_37 : decode cL_tick 37 = .ok (.iand, 1) := by decide +kernel
theorem dL_tick_38 : decode cL_tick 38 = .ok (.iconst 1, 1) := by decide +kernel
theorem dL_tick_39 : decode cL_tick 39 = .ok (.if_icmp .ne 7, 3) := by decide +kernel
theorem dL_tick_42 : decode cL_tick 42 = .ok (.iconst 1, 1) := by decide +kernel
theorem dL_tick_43 : decode cL_tick 43 = .ok (.goto 4, 3) := by decide +kernel
theorem dL_tick_46 : decode cL_tick 46 = .ok (.iconst 0, 1) := by decide +kernel
theorem dL_tick_47 : decode cL_tick 47 = .ok (.istore 7, 2) := by decide +kernel
theorem dL_tick_49 : decode cL_tick 49 = .ok (.aload_n 3, 1) := by decide +kernel
theorem dL_tick_50 : decode cL_tick 50 = .ok (.bipush 6, 2) := by decide +kernel
theorem dL_tick_52 : decode cL_tick 52 = .ok (.iload 6, 2) := by decide +kernel
theorem dL_tick_54 : decode cL_tick 54 = .ok (.iadd, 1) := by decide +kernel
theorem dL_tick_55 : decode cL_tick 55 = .ok (.dup2, 1) := by decide +kernel
theorem dL_tick_56 : decode cL_tick 56 = .ok (.iaload, 1) := by decide +kernel
theorem dL_tick_57 : decode cL_tick 57 = .ok (.iload 7, 2) := by decide +kernel
theorem dL_tick_59 : decode cL_tick 59 = .ok (.ifCond .eq 7, 3) := by decide +kernel
theorem dL_tick_62 : decode cL_tick 62 = .ok (.iconst 1, 1) := by decide +kernel
theorem dL_tick_63 : decode cL_tick 63 = .ok (.goto 4, 3) := by decide +kernel
theorem dL_tick_66 : decode cL_tick 66 = .ok (.iconst 0, 1) := by decide +kernel
theorem dL_tick_67 : decode cL_tick 67 = .ok (.iadd, 1) := by decide +kernel
theorem dL_tick_68 : decode cL_tick 68 = .ok (.iastore, 1) := by decide +kernel
theorem dL_tick_69 : decode cL_tick 69 = .ok (.aload_n 3, 1) := by decide +kernel
theorem dL_tick_70 : decode cL_tick 70 = .ok (.bipush 12, 2) := by decide +kernel
theorem dL_tick_72 : decode cL_tick 72 = .ok (.iload 6, 2) := by decide +kernel
theorem dL_tick_74 : decode cL_tick 74 = .ok (.iadd, 1) := by decide +kernel
theorem dL_tick_75 : decode cL_tick 75 = .ok (.iload 7, 2) := by decide +kernel
theorem dL_tick_77 : decode cL_tick 77 = .ok (.ifCond .eq 24, 3) := by decide +kernel
theorem dL_tick_80 : decode cL_tick 80 = .ok (.aload_n 3, 1) := by decide +kernel
theorem dL_tick_81 : decode cL_tick 81 = .ok (.iload 6, 2) := by decide +kernel
theorem dL_tick_83 : decode cL_tick 83 = .ok (.iaload, 1) := by decide +kernel
theorem dL_tick_84 : decode cL_tick 84 = .ok (.aload_n 3, 1) := by decide +kernel
theorem dL_tick_85 : decode cL_tick 85 = .ok (.bipush 12, 2) := by decide +kernel
theorem dL_tick_87 : decode cL_tick 87 = .ok (.iload 6, 2) := by decide +kernel
theorem dL_tick_89 : decode cL_tick 89 = .ok (.iadd, 1) := by decide +kernel
theorem dL_tick_90 : decode cL_tick 90 = .ok (.iaload, 1) := by decide +kernel
theorem dL_tick_91 : decode cL_tick 91 = .ok (.if_icmp .le 10, 3) := by decide +kernel
theorem dL_tick_94 : decode cL_tick 94 = .ok (.aload_n 3, 1) := by decide +kernel
theorem dL_tick_95 : decode cL_tick 95 = .ok (.iload 6, 2) := by decide +kernel
theorem dL_tick_97 : decode cL_tick 97 = .ok (.iaload, 1) := by decide +kernel
theorem dL_tick_98 : decode cL_tick 98 = .ok (.goto 10, 3) := by decide +kernel
theorem dL_tick_101 : decode cL_tick 101 = .ok (.aload_n 3, 1) := by decide +kernel
theorem dL_tick_102 : decode cL_tick 102 = .ok (.bipush 12, 2) := by decide +kernel
theorem dL_tick_104 : decode cL_tick 104 = .ok (.iload 6, 2) := by decide +kernel
theorem dL_tick_106 : decode cL_tick 106 = .ok (.iadd, 1) := by decide +kernel
theorem dL_tick_107 : decode cL_tick 107 = .ok (.iaload, 1) := by decide +kernel
theorem dL_tick_108 : decode cL_tick 108 = .ok (.iastore, 1) := by decide +kernel
theorem dL_tick_109 : decode cL_tick 109 = .ok (.aload_n 3, 1) := by decide +kernel
theorem dL_tick_110 : decode cL_tick 110 = .ok (.iload 6, 2) := by decide +kernel
theorem dL_tick_112 : decode cL_tick 112 = .ok (.iload 7, 2) := by decide +kernel
theorem dL_tick_114 : decode cL_tick 114 = .ok (.ifCond .eq 7, 3) := by decide +kernel
theorem dL_tick_117 : decode cL_tick 117 = .ok (.iconst (-1), 1) := by decide +kernel
theorem dL_tick_118 : decode cL_tick 118 = .ok (.goto 9, 3) := by decide +kernel
theorem dL_tick_121 : decode cL_tick 121 = .ok (.aload_n 3, 1) := by decide +kernel
theorem dL_tick_122 : decode cL_tick 122 = .ok (.iload 6, 2) := by decide +kernel
theorem dL_tick_124 : decode cL_tick 124 = .ok (.iaload, 1) := by decide +kernel
theorem dL_tick_125 : decode cL_tick 125 = .ok (.iconst 1, 1) := by decide +kernel
theorem dL_tick_126 : decode cL_tick 126 = .ok (.iadd, 1) := by decide +kernel
theorem dL_tick_127 : decode cL_tick 127 = .ok (.iastore, 1) := by decide +kernel
theorem dL_tick_128 : decode cL_tick 128 = .ok (.iinc 6 1, 3) := by decide +kernel
theorem dL_tick_131 : decode cL_tick 131 = .ok (.goto (-114), 3) := by decide +kernel
theorem dL_tick_134 : decode cL_tick 134 = .ok (.aload_n 2, 1) := by decide +kernel
theorem dL_tick_135 : decode cL_tick 135 = .ok (.iconst 2, 1) := by decide +kernel
theorem dL_tick_136 : decode cL_tick 136 = .ok (.iaload, 1) := by decide +kernel
theorem dL_tick_137 : decode cL_tick 137 = .ok (.ifCond .le 35, 3) := by decide +kernel
theorem dL_tick_140 : decode cL_tick 140 = .ok (.aload_n 2, 1) := by decide +kernel
theorem dL_tick_141 : decode cL_tick 141 = .ok (.iconst 2, 1) := by decide +kernel
theorem dL_tick_142 : decode cL_tick 142 = .ok (.dup2, 1) := by decide +kernel
theorem dL_tick_143 : decode cL_tick 143 = .ok (.iaload, 1) := by decide +kernel
theorem dL_tick_144 : decode cL_tick 144 = .ok (.iconst 1, 1) := by decide +kernel
theorem dL_tick_145 : decode cL_tick 145 = .ok (.isub, 1) := by decide +kernel
theorem dL_tick_146 : decode cL_tick 146 = .ok (.iastore, 1) := by decide +kernel
theorem dL_tick_147 : decode cL_tick 147 = .ok (.aload_n 2, 1) := by decide +kernel
theorem dL_tick_148 : decode cL_tick 148 = .ok (.iconst 1, 1) := by decide +kernel
theorem dL_tick_149 : decode cL_tick 149 = .ok (.iconst 0, 1) := by decide +kernel
theorem dL_tick_150 : decode cL_tick 150 = .ok (.iastore, 1) := by decide +kernel
theorem dL_tick_151 : decode cL_tick 151 = .ok (.aload 4, 2) := by decide +kernel
theorem dL_tick_153 : decode cL_tick 153 = .ok (.aload_n 2, 1) := by decide +kernel
theorem dL_tick_154 : decode cL_tick 154 = .ok (.iconst 0, 1) := by decide +kernel
theorem dL_tick_155 : decode cL_tick 155 = .ok (.iaload, 1) := by decide +kernel
theorem dL_tick_156 : decode cL_tick 156 = .ok (.dup2, 1) := by decide +kernel
theorem dL_tick_157 : decode cL_tick 157 = .ok (.iaload, 1) := by decide +kernel
theorem dL_tick_158 : decode cL_tick 158 = .ok (.aload_n 2, 1) := by decide +kernel
theorem dL_tick_159 : decode cL_tick 159 = .ok (.iconst 2, 1) := by decide +kernel
theorem dL_tick_160 : decode cL_tick 160 = .ok (.iaload, 1) := by decide +kernel
theorem dL_tick_161 : decode cL_tick 161 = .ok (.ifCond .ne 7, 3) := by decide +kernel
theorem dL_tick_164 : decode cL_tick 164 = .ok (.iconst 1, 1) := by decide +kernel
theorem dL_tick_165 : decode cL_tick 165 = .ok (.goto 4, 3) := by decide +kernel
theorem dL_tick_168 : decode cL_tick 168 = .ok (.iconst 0, 1) := by decide +kernel
theorem dL_tick_169 : decode cL_tick 169 = .ok (.iadd, 1) := by decide +kernel
theorem dL_tick_170 : decode cL_tick 170 = .ok (.iastore, 1) := by decide +kernel
theorem dL_tick_171 : decode cL_tick 171 = .ok (.return_, 1) := by decide +kernel
theorem dL_tick_172 : decode cL_tick 172 = .ok (.aload_n 2, 1) := by decide +kernel
theorem dL_tick_173 : decode cL_tick 173 = .ok (.iconst 1, 1) := by decide +kernel
theorem dL_tick_174 : decode cL_tick 174 = .ok (.dup2, 1) := by decide +kernel
theorem dL_tick_175 : decode cL_tick 175 = .ok (.iaload, 1) := by decide +kernel
theorem dL_tick_176 : decode cL_tick 176 = .ok (.iconst 1, 1) := by decide +kernel
theorem dL_tick_177 : decode cL_tick 177 = .ok (.iadd, 1) := by decide +kernel
theorem dL_tick_178 : decode cL_tick 178 = .ok (.iastore, 1) := by decide +kernel
theorem dL_tick_179 : decode cL_tick 179 = .ok (.aload_n 2, 1) := by decide +kernel
theorem dL_tick_180 : decode cL_tick 180 = .ok (.iconst 0, 1) := by decide +kernel
theorem dL_tick_181 : decode cL_tick 181 = .ok (.iaload, 1) := by decide +kernel
theorem dL_tick_182 : decode cL_tick 182 = .ok (.istore 6, 2) := by decide +kernel
theorem dL_tick_184 : decode cL_tick 184 = .ok (.iconst 0, 1) := by decide +kernel
theorem dL_tick_185 : decode cL_tick 185 = .ok (.istore 7, 2) := by decide +kernel
theorem dL_tick_187 : decode cL_tick 187 = .ok (.iload 7, 2) := by decide +kernel
theorem dL_tick_189 : decode cL_tick 189 = .ok (.aload_n 0, 1) := by decide +kernel
theorem dL_tick_190 : decode cL_tick 190 = .ok (.iload 6, 2) := by decide +kernel
theorem dL_tick_192 : decode cL_tick 192 = .ok (.iconst 2, 1) := by decide +kernel
theorem dL_tick_193 : decode cL_tick 193 = .ok (.invokevirtual 35, 3) := by decide +kernel
theorem dL_tick_196 : decode cL_tick 196 = .ok (.if_icmp .ge 166, 3) := by decide +kernel
theorem dL_tick_199 : decode cL_tick 199 = .ok (.aload_n 2, 1) := by decide +kernel
theorem dL_tick_200 : decode cL_tick 200 = .ok (.iconst 1, 1) := by decide +kernel
theorem dL_tick_201 : decode cL_tick 201 = .ok (.iaload, 1) := by decide +kernel
theorem dL_tick_202 : decode cL_tick 202 = .ok (.aload_n 0, 1) := by decide +kernel
theorem dL_tick_203 : decode cL_tick 203 = .ok (.iload 6, 2) := by decide +kernel
theorem dL_tick_205 : decode cL_tick 205 = .ok (.iconst 1, 1) := by decide +kernel
theorem dL_tick_206 : decode cL_tick 206 = .ok (.invokevirtual 35, 3) := by decide +kernel
theorem dL_tick_209 : decode cL_tick 209 = .ok (.if_icmp .lt 153, 3) := by decide +kernel
theorem dL_tick_212 : decode cL_tick 212 = .ok (.aload_n 0, 1) := by decide +kernel
theorem dL_tick_213 : decode cL_tick 213 = .ok (.iload 6, 2) := by decide +kernel
theorem dL_tick_215 : decode cL_tick 215 = .ok (.iload 7, 2) := by decide +kernel
theorem dL_tick_217 : decode cL_tick 217 = .ok (.iconst 1, 1) := by decide +kernel
theorem dL_tick_218 : decode cL_tick 218 = .ok (.invokevirtual 42, 3) := by decide +kernel
theorem dL_tick_221 : decode cL_tick 221 = .ok (.istore 8, 2) := by decide +kernel
theorem dL_tick_223 : decode cL_tick 223 = .ok (.iload 8, 2) := by decide +kernel
theorem dL_tick_225 : decode cL_tick 225 = .ok (.ifCond .ne 7, 3) := by decide +kernel
theorem dL_tick_228 : decode cL_tick 228 = .ok (.iconst 1, 1) := by decide +kernel
theorem dL_tick_229 : decode cL_tick 229 = .ok (.goto 4, 3) := by decide +kernel
theorem dL_tick_232 : decode cL_tick 232 = .ok (.iconst 0, 1) := by decide +kernel
theorem dL_tick_233 : decode cL_tick 233 = .ok (.istore 9, 2) := by decide +kernel
theorem dL_tick_235 : decode cL_tick 235 = .ok (.iconst 0, 1) := by decide +kernel
theorem dL_tick_236 : decode cL_tick 236 = .ok (.istore 10, 2) := by decide +kernel
theorem dL_tick_238 : decode cL_tick 238 = .ok (.iload 10, 2) := by decide +kernel
theorem dL_tick_240 : decode cL_tick 240 = .ok (.bipush 6, 2) := by decide +kernel
theorem dL_tick_242 : decode cL_tick 242 = .ok (.if_icmp .ge 39, 3) := by decide +kernel
theorem dL_tick_245 : decode cL_tick 245 = .ok (.iload 9, 2) := by decide +kernel
theorem dL_tick_247 : decode cL_tick 247 = .ok (.ifCond .ne 21, 3) := by decide +kernel
theorem dL_tick_250 : decode cL_tick 250 = .ok (.iload 8, 2) := by decide +kernel
theorem dL_tick_252 : decode cL_tick 252 = .ok (.iload 10, 2) := by decide +kernel
theorem dL_tick_254 : decode cL_tick 254 = .ok (.ishr, 1) := by decide +kernel
theorem dL_tick_255 : decode cL_tick 255 = .ok (.iconst 1, 1) := by decide +kernel
theorem dL_tick_256 : decode cL_tick 256 = .ok (.iand, 1) := by decide +kernel
theorem dL_tick_257 : decode cL_tick 257 = .ok (.iconst 1, 1) := by decide +kernel
theorem dL_tick_258 : decode cL_tick 258 = .ok (.if_icmp .ne 14, 3) := by decide +kernel
theorem dL_tick_261 : decode cL_tick 261 = .ok (.aload_n 3, 1) := by decide +kernel
theorem dL_tick_262 : decode cL_tick 262 = .ok (.iload 10, 2) := by decide +kernel
theorem dL_tick_264 : decode cL_tick 264 = .ok (.iaload, 1) := by decide +kernel
theorem dL_tick_265 : decode cL_tick 265 = .ok (.ifCond .lt 7, 3) := by decide +kernel
theorem dL_tick_268 : decode cL_tick 268 = .ok (.iconst 1, 1) := by decide +kernel
theorem dL_tick_269 : decode cL_tick 269 = .ok (.goto 4, 3) := by decide +kernel
theorem dL_tick_272 : decode cL_tick 272 = .ok (.iconst 0, 1) := by decide +kernel
theorem dL_tick_273 : decode cL_tick 273 = .ok (.istore 9, 2) := by decide +kernel
theorem dL_tick_275 : decode cL_tick 275 = .ok (.iinc 10 1, 3) := by decide +kernel
theorem dL_tick_278 : decode cL_tick 278 = .ok (.goto (-40), 3) := by decide +kernel
theorem dL_tick_281 : decode cL_tick 281 = .ok (.iload 9, 2) := by decide +kernel
theorem dL_tick_283 : decode cL_tick 283 = .ok (.ifCond .eq 73, 3) := by decide +kernel
theorem dL_tick_286 : decode cL_tick 286 = .ok (.aload_n 0, 1) := by decide +kernel
theorem dL_tick_287 : decode cL_tick 287 = .ok (.iload 6, 2) := by decide +kernel
theorem dL_tick_289 : decode cL_tick 289 = .ok (.iload 7, 2) := by decide +kernel
theorem dL_tick_291 : decode cL_tick 291 = .ok (.iconst 0, 1) := by decide +kernel
theorem dL_tick_292 : decode cL_tick 292 = .ok (.invokevirtual 42, 3) := by decide +kernel
theorem dL_tick_295 : decode cL_tick 295 = .ok (.istore 10, 2) := by decide +kernel
theorem dL_tick_297 : decode cL_tick 297 = .ok (.aload_n 2, 1) := by decide +kernel
theorem dL_tick_298 : decode cL_tick 298 = .ok (.iconst 2, 1) := by decide +kernel
theorem dL_tick_299 : decode cL_tick 299 = .ok (.aload_n 0, 1) := by decide +kernel
theorem dL_tick_300 : decode cL_tick 300 = .ok (.iload 10, 2) := by decide +kernel
theorem dL_tick_302 : decode cL_tick 302 = .ok (.iconst 0, 1) := by decide +kernel
theorem dL_tick_303 : decode cL_tick 303 = .ok (.invokevirtual 35, 3) := by decide +kernel
theorem dL_tick_306 : decode cL_tick 306 = .ok (.aload_n 0, 1) := by decide +kernel
theorem dL_tick_307 : decode cL_tick 307 = .ok (.iload 6, 2) := by decide +kernel
theorem dL_tick_309 : decode cL_tick 309 = .ok (.iconst 0, 1) := by decide +kernel
theorem dL_tick_310 : decode cL_tick 310 = .ok (.invokevirtual 35, 3) := by decide +kernel
theorem dL_tick_313 : decode cL_tick 313 = .ok (.if_icmp .ne 7, 3) := by decide +kernel
theorem dL_tick_316 : decode cL_tick 316 = .ok (.iconst 0, 1) := by decide +kernel
theorem dL_tick_317 : decode cL_tick 317 = .ok (.goto 4, 3) := by decide +kernel
theorem dL_tick_320 : decode cL_tick 320 = .ok (.iload_n 1, 1) := by decide +kernel
theorem dL_tick_321 : decode cL_tick 321 = .ok (.iastore, 1) := by decide +kernel
theorem dL_tick_322 : decode cL_tick 322 = .ok (.aload_n 2, 1) := by decide +kernel
theorem dL_tick_323 : decode cL_tick 323 = .ok (.iconst 3, 1) := by decide +kernel
theorem dL_tick_324 : decode cL_tick 324 = .ok (.iload 6, 2) := by decide +kernel
theorem dL_tick_326 : decode cL_tick 326 = .ok (.iastore, 1) := by decide +kernel
theorem dL_tick_327 : decode cL_tick 327 = .ok (.aload_n 2, 1) := by decide +kernel
theorem dL_tick_328 : decode cL_tick 328 = .ok (.iconst 0, 1) := by decide +kernel
theorem dL_tick_329 : decode cL_tick 329 = .ok (.iload 10, 2) := by decide +kernel
theorem dL_tick_331 : decode cL_tick 331 = .ok (.iastore, 1) := by decide +kernel
theorem dL_tick_332 : decode cL_tick 332 = .ok (.aload_n 2, 1) := by decide +kernel
theorem dL_tick_333 : decode cL_tick 333 = .ok (.iconst 1, 1) := by decide +kernel
theorem dL_tick_334 : decode cL_tick 334 = .ok (.iconst 0, 1) := by decide +kernel
theorem dL_tick_335 : decode cL_tick 335 = .ok (.iastore, 1) := by decide +kernel
theorem dL_tick_336 : decode cL_tick 336 = .ok (.aload 4, 2) := by decide +kernel
theorem dL_tick_338 : decode cL_tick 338 = .ok (.iload 10, 2) := by decide +kernel
theorem dL_tick_340 : decode cL_tick 340 = .ok (.dup2, 1) := by decide +kernel
theorem dL_tick_341 : decode cL_tick 341 = .ok (.iaload, 1) := by decide +kernel
theorem dL_tick_342 : decode cL_tick 342 = .ok (.aload_n 2, 1) := by decide +kernel
theorem dL_tick_343 : decode cL_tick 343 = .ok (.iconst 2, 1) := by decide +kernel
theorem dL_tick_344 : decode cL_tick 344 = .ok (.iaload, 1) := by decide +kernel
theorem dL_tick_345 : decode cL_tick 345 = .ok (.ifCond .ne 7, 3) := by decide +kernel
theorem dL_tick_348 : decode cL_tick 348 = .ok (.iconst 1, 1) := by decide +kernel
theorem dL_tick_349 : decode cL_tick 349 = .ok (.goto 4, 3) := by decide +kernel
theorem dL_tick_352 : decode cL_tick 352 = .ok (.iconst 0, 1) := by decide +kernel
theorem dL_tick_353 : decode cL_tick 353 = .ok (.iadd, 1) := by decide +kernel
theorem dL_tick_354 : decode cL_tick 354 = .ok (.iastore, 1) := by decide +kernel
theorem dL_tick_355 : decode cL_tick 355 = .ok (.return_, 1) := by decide +kernel
theorem dL_tick_356 : decode cL_tick 356 = .ok (.iinc 7 1, 3) := by decide +kernel
theorem dL_tick_359 : decode cL_tick 359 = .ok (.goto (-172), 3) := by decide +kernel
theorem dL_tick_362 : decode cL_tick 362 = .ok (.return_, 1) := by decide +kernel
