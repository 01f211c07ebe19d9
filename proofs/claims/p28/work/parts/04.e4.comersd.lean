theorem dL_comers_0 : decode cL_comers 0 = .ok (.aload_n 0, 1) := by decide +kernel
theorem dL_comers_1 : decode cL_comers 1 = .ok (.iconst 0, 1) := by decide +kernel
theorem dL_comers_2 : decode cL_comers 2 = .ok (.invokevirtual 45, 3) := by decide +kernel
theorem dL_comers_5 : decode cL_comers 5 = .ok (.istore_n 2, 1) := by decide +kernel
theorem dL_comers_6 : decode cL_comers 6 = .ok (.iconst 1, 1) := by decide +kernel
theorem dL_comers_7 : decode cL_comers 7 = .ok (.iload_n 1, 1) := by decide +kernel
theorem dL_comers_8 : decode cL_comers 8 = .ok (.ishl, 1) := by decide +kernel
theorem dL_comers_9 : decode cL_comers 9 = .ok (.istore_n 3, 1) := by decide +kernel
theorem dL_comers_10 : decode cL_comers 10 = .ok (.iconst 0, 1) := by decide +kernel
theorem dL_comers_11 : decode cL_comers 11 = .ok (.istore 4, 2) := by decide +kernel
theorem dL_comers_13 : decode cL_comers 13 = .ok (.iload 4, 2) := by decide +kernel
theorem dL_comers_15 : decode cL_comers 15 = .ok (.iload_n 3, 1) := by decide +kernel
theorem dL_comers_16 : decode cL_comers 16 = .ok (.if_icmp .eq 76, 3) := by decide +kernel
theorem dL_comers_19 : decode cL_comers 19 = .ok (.iload_n 3, 1) := by decide +kernel
theorem dL_comers_20 : decode cL_comers 20 = .ok (.istore 4, 2) := by decide +kernel
theorem dL_comers_22 : decode cL_comers 22 = .ok (.iconst 0, 1) := by decide +kernel
theorem dL_comers_23 : decode cL_comers 23 = .ok (.istore 5, 2) := by decide +kernel
theorem dL_comers_25 : decode cL_comers 25 = .ok (.iload 5, 2) := by decide +kernel
theorem dL_comers_27 : decode cL_comers 27 = .ok (.iload_n 2, 1) := by decide +kernel
theorem dL_comers_28 : decode cL_comers 28 = .ok (.iconst 4, 1) := by decide +kernel
theorem dL_comers_29 : decode cL_comers 29 = .ok (.imul, 1) := by decide +kernel
theorem dL_comers_30 : decode cL_comers 30 = .ok (.if_icmp .ge 59, 3) := by decide +kernel
theorem dL_comers_33 : decode cL_comers 33 = .ok (.iload_n 3, 1) := by decide +kernel
theorem dL_comers_34 : decode cL_comers 34 = .ok (.iload_n 3, 1) := by decide +kernel
theorem dL_comers_35 : decode cL_comers 35 = .ok (.iload 5, 2) := by decide +kernel
theorem dL_comers_37 : decode cL_comers 37 = .ok (.iconst 4, 1) := by decide +kernel
theorem dL_comers_38 : decode cL_comers 38 = .ok (.idiv, 1) := by decide +kernel
theorem dL_comers_39 : decode cL_comers 39 = .ok (.ishr, 1) := by decide +kernel
theorem dL_comers_40 : decode cL_comers 40 = .ok (.iconst 1, 1) := by decide +kernel
theorem dL_comers_41 : decode cL_comers 41 = .ok (.iand, 1) := by decide +kernel
theorem dL_comers_42 : decode cL_comers 42 = .ok (.iconst 1, 1) := by decide +kernel
theorem dL_comers_43 : decode cL_comers 43 = .ok (.if_icmp .ne 37, 3) := by decide +kernel
theorem dL_comers_46 : decode cL_comers 46 = .ok (.iload 5, 2) := by decide +kernel
theorem dL_comers_48 : decode cL_comers 48 = .ok (.iconst 4, 1) := by decide +kernel
theorem dL_comers_49 : decode cL_comers 49 = .ok (.irem, 1) := by decide +kernel
theorem dL_comers_50 : decode cL_comers 50 = .ok (.aload_n 0, 1) := by decide +kernel
theorem dL_comers_51 : decode cL_comers 51 = .ok (.iload 5, 2) := by decide +kernel
theorem dL_comers_53 : decode cL_comers 53 = .ok (.iconst 4, 1) := by decide +kernel
theorem dL_comers_54 : decode cL_comers 54 = .ok (.idiv, 1) := by decide +kernel
theorem dL_comers_55 : decode cL_comers 55 = .ok (.iconst 2, 1) := by decide +kernel
theorem dL_comers_56 : decode cL_comers 56 = .ok (.invokevirtual 35, 3) := by decide +kernel
theorem dL_comers_59 : decode cL_comers 59 = .ok (.if_icmp .ge 21, 3) := by decide +kernel
theorem dL_comers_62 : decode cL_comers 62 = .ok (.iconst 1, 1) := by decide +kernel
theorem dL_comers_63 : decode cL_comers 63 = .ok (.aload_n 0, 1) := by decide +kernel
theorem dL_comers_64 : decode cL_comers 64 = .ok (.iload 5, 2) := by decide +kernel
theorem dL_comers_66 : decode cL_comers 66 = .ok (.iconst 4, 1) := by decide +kernel
theorem dL_comers_67 : decode cL_comers 67 = .ok (.idiv, 1) := by decide +kernel
theorem dL_comers_68 : decode cL_comers 68 = .ok (.iload 5, 2) := by decide +kernel
theorem dL_comers_70 : decode cL_comers 70 = .ok (.iconst 4, 1) := by decide +kernel
theorem dL_comers_71 : decode cL_comers 71 = .ok (.irem, 1) := by decide +kernel
theorem dL_comers_72 : decode cL_comers 72 = .ok (.iconst 0, 1) := by decide +kernel
theorem dL_comers_73 : decode cL_comers 73 = .ok (.invokevirtual 42, 3) := by decide +kernel
theorem dL_comers_76 : decode cL_comers 76 = .ok (.ishl, 1) := by decide +kernel
theorem dL_comers_77 : decode cL_comers 77 = .ok (.goto 4, 3) := by decide +kernel
theorem dL_comers_80 : decode cL_comers 80 = .ok (.iconst 0, 1) := by decide +kernel
theorem dL_comers_81 : decode cL_comers 81 = .ok (.ior, 1) := by decide +kernel
theorem dL_comers_82 : decode cL_comers 82 = .ok (.istore_n 3, 1) := by decide +kernel
theorem dL_comers_83 : decode cL_comers 83 = .ok (.iinc 5 1, 3) := by decide +kernel
theorem dL_comers_86 : decode cL_comers 86 = .ok (.goto (-61), 3) := by decide +kernel
theorem dL_comers_89 : decode cL_comers 89 = .ok (.goto (-76), 3) := by decide +kernel
theorem dL_comers_92 : decode cL_comers 92 = .ok (.iconst 0, 1) := by decide +kernel
theorem dL_comers_93 : decode cL_comers 93 = .ok (.istore 5, 2) := by decide +kernel
theorem dL_comers_95 : decode cL_comers 95 = .ok (.iconst 0, 1) := by decide +kernel
theorem dL_comers_96 : decode cL_comers 96 = .ok (.istore 6, 2) := by decide +kernel
theorem dL_comers_98 : decode cL_comers 98 = .ok (.iconst 0, 1) := by decide +kernel
theorem dL_comers_99 : decode cL_comers 99 = .ok (.istore 7, 2) := by decide +kernel
theorem dL_comers_101 : decode cL_comers 101 = .ok (.iconst 0, 1) := by decide +kernel
theorem dL_comers_102 : decode cL_comers 102 = .ok (.istore 8, 2) := by decide +kernel
theorem dL_comers_104 : decode cL_comers 104 = .ok (.iload 8, 2) := by decide +kernel
theorem dL_comers_106 : decode cL_comers 106 = .ok (.iload_n 2, 1) := by decide +kernel
theorem dL_comers_107 : decode cL_comers 107 = .ok (.if_icmp .ge 196, 3) := by decide +kernel
theorem dL_comers_110 : decode cL_comers 110 = .ok (.iconst 0, 1) := by decide +kernel
theorem dL_comers_111 : decode cL_comers 111 = .ok (.istore 9, 2) := by decide +kernel
theorem dL_comers_113 : decode cL_comers 113 = .ok (.iconst 0, 1) := by decide +kernel
theorem dL_comers_114 : decode cL_comers 114 = .ok (.istore 10, 2) := by decide +kernel
theorem dL_comers_116 : decode cL_comers 116 = .ok (.iload 10, 2) := by decide +kernel
theorem dL_comers_118 : decode cL_comers 118 = .ok (.bipush 36, 2) := by decide +kernel
theorem dL_comers_120 : decode cL_comers 120 = .ok (.if_icmp .ge 93, 3) := by decide +kernel
theorem dL_comers_123 : decode cL_comers 123 = .ok (.aload_n 0, 1) := by decide +kernel
theorem dL_comers_124 : decode cL_comers 124 = .ok (.iload 8, 2) := by decide +kernel
theorem dL_comers_126 : decode cL_comers 126 = .ok (.iconst 0, 1) := by decide +kernel
theorem dL_comers_127 : decode cL_comers 127 = .ok (.invokevirtual 35, 3) := by decide +kernel
theorem dL_comers_130 : decode cL_comers 130 = .ok (.iload 10, 2) := by decide +kernel
theorem dL_comers_132 : decode cL_comers 132 = .ok (.bipush 6, 2) := by decide +kernel
theorem dL_comers_134 : decode cL_comers 134 = .ok (.idiv, 1) := by decide +kernel
theorem dL_comers_135 : decode cL_comers 135 = .ok (.ishr, 1) := by decide +kernel
theorem dL_comers_136 : decode cL_comers 136 = .ok (.iconst 1, 1) := by decide +kernel
theorem dL_comers_137 : decode cL_comers 137 = .ok (.iand, 1) := by decide +kernel
theorem dL_comers_138 : decode cL_comers 138 = .ok (.iconst 1, 1) := by decide +kernel
theorem dL_comers_139 : decode cL_comers 139 = .ok (.if_icmp .ne 26, 3) := by decide +kernel
theorem dL_comers_142 : decode cL_comers 142 = .ok (.aload_n 0, 1) := by decide +kernel
theorem dL_comers_143 : decode cL_comers 143 = .ok (.iload 8, 2) := by decide +kernel
theorem dL_comers_145 : decode cL_comers 145 = .ok (.iconst 0, 1) := by decide +kernel
theorem dL_comers_146 : decode cL_comers 146 = .ok (.invokevirtual 35, 3) := by decide +kernel
theorem dL_comers_149 : decode cL_comers 149 = .ok (.iload 10, 2) := by decide +kernel
theorem dL_comers_151 : decode cL_comers 151 = .ok (.bipush 6, 2) := by decide +kernel
theorem dL_comers_153 : decode cL_comers 153 = .ok (.irem, 1) := by decide +kernel
theorem dL_comers_154 : decode cL_comers 154 = .ok (.ishr, 1) := by decide +kernel
theorem dL_comers_155 : decode cL_comers 155 = .ok (.iconst 1, 1) := by decide +kernel
theorem dL_comers_156 : decode cL_comers 156 = .ok (.iand, 1) := by decide +kernel
theorem dL_comers_157 : decode cL_comers 157 = .ok (.iconst 1, 1) := by decide +kernel
theorem dL_comers_158 : decode cL_comers 158 = .ok (.if_icmp .ne 7, 3) := by decide +kernel
theorem dL_comers_161 : decode cL_comers 161 = .ok (.iconst 1, 1) := by decide +kernel
theorem dL_comers_162 : decode cL_comers 162 = .ok (.goto 4, 3) := by decide +kernel
theorem dL_comers_165 : decode cL_comers 165 = .ok (.iconst 0, 1) := by decide +kernel
theorem dL_comers_166 : decode cL_comers 166 = .ok (.istore 11, 2) := by decide +kernel
theorem dL_comers_168 : decode cL_comers 168 = .ok (.iload 9, 2) := by decide +kernel
theorem dL_comers_170 : decode cL_comers 170 = .ok (.ifCond .ne 30, 3) := by decide +kernel
theorem dL_comers_173 : decode cL_comers 173 = .ok (.iload 11, 2) := by decide +kernel
theorem dL_comers_175 : decode cL_comers 175 = .ok (.ifCond .eq 29, 3) := by decide +kernel
theorem dL_comers_178 : decode cL_comers 178 = .ok (.aload_n 0, 1) := by decide +kernel
theorem dL_comers_179 : decode cL_comers 179 = .ok (.iload 10, 2) := by decide +kernel
theorem dL_comers_181 : decode cL_comers 181 = .ok (.bipush 6, 2) := by decide +kernel
theorem dL_comers_183 : decode cL_comers 183 = .ok (.idiv, 1) := by decide +kernel
theorem dL_comers_184 : decode cL_comers 184 = .ok (.iconst 2, 1) := by decide +kernel
theorem dL_comers_185 : decode cL_comers 185 = .ok (.invokevirtual 26, 3) := by decide +kernel
theorem dL_comers_188 : decode cL_comers 188 = .ok (.iload 10, 2) := by decide +kernel
theorem dL_comers_190 : decode cL_comers 190 = .ok (.bipush 6, 2) := by decide +kernel
theorem dL_comers_192 : decode cL_comers 192 = .ok (.irem, 1) := by decide +kernel
theorem dL_comers_193 : decode cL_comers 193 = .ok (.ishr, 1) := by decide +kernel
theorem dL_comers_194 : decode cL_comers 194 = .ok (.iconst 1, 1) := by decide +kernel
theorem dL_comers_195 : decode cL_comers 195 = .ok (.iand, 1) := by decide +kernel
theorem dL_comers_196 : decode cL_comers 196 = .ok (.iconst 1, 1) := by decide +kernel
theorem dL_comers_197 : decode cL_comers 197 = .ok (.if_icmp .ne 7, 3) := by decide +kernel
theorem dL_comers_200 : decode cL_comers 200 = .ok (.iconst 1, 1) := by decide +kernel
theorem dL_comers_201 : decode cL_comers 201 = .ok (.goto 4, 3) := by decide +kernel
theorem dL_comers_204 : decode cL_comers 204 = .ok (.iconst 0, 1) := by decide +kernel
theorem dL_comers_205 : decode cL_comers 205 = .ok (.istore 9, 2) := by decide +kernel
theorem dL_comers_207 : decode cL_comers 207 = .ok (.iinc 10 1, 3) := by decide +kernel
theorem dL_comers_210 : decode cL_comers 210 = .ok (.goto (-94), 3) := by decide +kernel
theorem dL_comers_213 : decode cL_comers 213 = .ok (.aload_n 0, 1) := by decide +kernel
theorem dL_comers_214 : decode cL_comers 214 = .ok (.iload 8, 2) := by decide +kernel
theorem dL_comers_216 : decode cL_comers 216 = .ok (.iconst 3, 1) := by decide +kernel
theorem dL_comers_217 : decode cL_comers 217 = .ok (.invokevirtual 35, 3) := by decide +kernel
theorem dL_comers_220 : decode cL_comers 220 = .ok (.iload 9, 2) := by decide +kernel
theorem dL_comers_222 : decode cL_comers 222 = .ok (.ifCond .eq 7, 3) := by decide +kernel
theorem dL_comers_225 : decode cL_comers 225 = .ok (.iconst 1, 1) := by decide +kernel
theorem dL_comers_226 : decode cL_comers 226 = .ok (.goto 4, 3) := by decide +kernel
theorem dL_comers_229 : decode cL_comers 229 = .ok (.iconst 0, 1) := by decide +kernel
theorem dL_comers_230 : decode cL_comers 230 = .ok (.if_icmp .ne 19, 3) := by decide +kernel
theorem dL_comers_233 : decode cL_comers 233 = .ok (.aload_n 0, 1) := by decide +kernel
theorem dL_comers_234 : decode cL_comers 234 = .ok (.iload 8, 2) := by decide +kernel
theorem dL_comers_236 : decode cL_comers 236 = .ok (.iconst 4, 1) := by decide +kernel
theorem dL_comers_237 : decode cL_comers 237 = .ok (.invokevirtual 35, 3) := by decide +kernel
theorem dL_comers_240 : decode cL_comers 240 = .ok (.iload_n 3, 1) := by decide +kernel
theorem dL_comers_241 : decode cL_comers 241 = .ok (.iload 8, 2) := by decide +kernel
theorem dL_comers_243 : decode cL_comers 243 = .ok (.ishr, 1) := by decide +kernel
theorem dL_comers_244 : decode cL_comers 244 = .ok (.iconst 1, 1) := by decide +kernel
theorem dL_comers_245 : decode cL_comers 245 = .ok (.iand, 1) := by decide +kernel
theorem dL_comers_246 : decode cL_comers 246 = .ok (.if_icmp .eq 5, 3) := by decide +kernel
theorem dL_comers_249 : decode cL_comers 249 = .ok (.iconst 0, 1) := by decide +kernel
theorem dL_comers_250 : decode cL_comers 250 = .ok (.ireturn, 1) := by decide +kernel
theorem dL_comers_251 : decode cL_comers 251 = .ok (.iload 5, 2) := by decide +kernel
theorem dL_comers_253 : decode cL_comers 253 = .ok (.iload 9, 2) := by decide +kernel
theorem dL_comers_255 : decode cL_comers 255 = .ok (.ifCond .eq 7, 3) := by decide +kernel
theorem dL_comers_258 : decode cL_comers 258 = .ok (.iconst 1, 1) := by decide +kernel
theorem dL_comers_259 : decode cL_comers 259 = .ok (.goto 4, 3) := by decide +kernel
theorem dL_comers_262 : decode cL_comers 262 = .ok (.iconst 0, 1) := by decide +kernel
theorem dL_comers_263 : decode cL_comers 263 = .ok (.iadd, 1) := by decide +kernel
theorem dL_comers_264 : decode cL_comers 264 = .ok (.istore 5, 2) := by decide +kernel
theorem dL_comers_266 : decode cL_comers 266 = .ok (.iload 6, 2) := by decide +kernel
theorem dL_comers_268 : decode cL_comers 268 = .ok (.iload_n 3, 1) := by decide +kernel
theorem dL_comers_269 : decode cL_comers 269 = .ok (.iload 8, 2) := by decide +kernel
theorem dL_comers_271 : decode cL_comers 271 = .ok (.ishr, 1) := by decide +kernel
theorem dL_comers_272 : decode cL_comers 272 = .ok (.iconst 1, 1) := by decide +kernel
theorem dL_comers_273 : decode cL_comers 273 = .ok (.iand, 1) := by decide +kernel
theorem dL_comers_274 : decode cL_comers 274 = .ok (.iadd, 1) := by decide +kernel
theorem dL_comers_275 : decode cL_comers 275 = .ok (.istore 6, 2) := by decide +kernel
theorem dL_comers_277 : decode cL_comers 277 = .ok (.iload 7, 2) := by decide +kernel
theorem dL_comers_279 : decode cL_comers 279 = .ok (.iload 9, 2) := by decide +kernel
theorem dL_comers_281 : decode cL_comers 281 = .ok (.ifCond .eq 12, 3) := by decide +kernel
theorem dL_comers_284 : decode cL_comers 284 = .ok (.iload_n 3, 1) := by decide +kernel
theorem dL_comers_285 : decode cL_comers 285 = .ok (.iload 8, 2) := by decide +kernel
theorem dL_comers_287 : decode cL_comers 287 = .ok (.ishr, 1) := by decide +kernel
theorem dL_comers_288 : decode cL_comers 288 = .ok (.iconst 1, 1) := by decide +kernel
theorem dL_comers_289 : decode cL_comers 289 = .ok (.iand, 1) := by decide +kernel
theorem dL_comers_290 : decode cL_comers 290 = .ok (.goto 4, 3) := by decide +kernel
theorem dL_comers_293 : decode cL_comers 293 = .ok (.iconst 0, 1) := by decide +kernel
theorem dL_comers_294 : decode cL_comers 294 = .ok (.iadd, 1) := by decide +kernel
theorem dL_comers_295 : decode cL_comers 295 = .ok (.istore 7, 2) := by decide +kernel
theorem dL_comers_297 : decode cL_comers 297 = .ok (.iinc 8 1, 3) := by decide +kernel
theorem dL_comers_300 : decode cL_comers 300 = .ok (.goto (-196), 3) := by decide +kernel
theorem dL_comers_303 : decode cL_comers 303 = .ok (.aload_n 0, 1) := by decide +kernel
theorem dL_comers_304 : decode cL_comers 304 = .ok (.bipush 6, 2) := by decide +kernel
theorem dL_comers_306 : decode cL_comers 306 = .ok (.invokevirtual 45, 3) := by decide +kernel
theorem dL_comers_309 : decode cL_comers 309 = .ok (.iload 5, 2) := by decide +kernel
theorem dL_comers_311 : decode cL_comers 311 = .ok (.if_icmp .ne 45, 3) := by decide +kernel
theorem dL_comers_314 : decode cL_comers 314 = .ok (.aload_n 0, 1) := by decide +kernel
theorem dL_comers_315 : decode cL_comers 315 = .ok (.bipush 7, 2) := by decide +kernel
theorem dL_comers_317 : decode cL_comers 317 = .ok (.invokevirtual 45, 3) := by decide +kernel
theorem dL_comers_320 : decode cL_comers 320 = .ok (.iload 6, 2) := by decide +kernel
theorem dL_comers_322 : decode cL_comers 322 = .ok (.if_icmp .ne 34, 3) := by decide +kernel
theorem dL_comers_325 : decode cL_comers 325 = .ok (.aload_n 0, 1) := by decide +kernel
theorem dL_comers_326 : decode cL_comers 326 = .ok (.bipush 8, 2) := by decide +kernel
theorem dL_comers_328 : decode cL_comers 328 = .ok (.invokevirtual 45, 3) := by decide +kernel
theorem dL_comers_331 : decode cL_comers 331 = .ok (.iload 7, 2) := by decide +kernel
theorem dL_comers_333 : decode cL_comers 333 = .ok (.if_icmp .ne 23, 3) := by decide +kernel
theorem dL_comers_336 : decode cL_comers 336 = .ok (.aload_n 0, 1) := by decide +kernel
theorem dL_comers_337 : decode cL_comers 337 = .ok (.invokevirtual 52, 3) := by decide +kernel
theorem dL_comers_340 : decode cL_comers 340 = .ok (.iload_n 2, 1) := by decide +kernel
theorem dL_comers_341 : decode cL_comers 341 = .ok (.iload 5, 2) := by decide +kernel
theorem dL_comers_343 : decode cL_comers 343 = .ok (.isub, 1) := by decide +kernel
theorem dL_comers_344 : decode cL_comers 344 = .ok (.i2d, 1) := by decide +kernel
theorem dL_comers_345 : decode cL_comers 345 = .ok (.iload_n 2, 1) := by decide +kernel
theorem dL_comers_346 : decode cL_comers 346 = .ok (.i2d, 1) := by decide +kernel
theorem dL_comers_347 : decode cL_comers 347 = .ok (.ddiv, 1) := by decide +kernel
theorem dL_comers_348 : decode cL_comers 348 = .ok (.dcmp .l, 1) := by decide +kernel
theorem dL_comers_349 : decode cL_comers 349 = .ok (.ifCond .ne 7, 3) := by decide +kernel
theorem dL_comers_352 : decode cL_comers 352 = .ok (.iconst 1, 1) := by decide +kernel
theorem dL_comers_353 : decode cL_comers 353 = .ok (.goto 4, 3) := by decide +kernel
theorem dL_comers_356 : decode cL_comers 356 = .ok (.iconst 0, 1) := by decide +kernel
theorem dL_comers_357 : decode cL_comers 357 = .ok (.ireturn, 1) := by decide +kernel
