theorem dL_served_0 : decode cL_served 0 = .ok (.aload_n 0, 1) := by decide +kernel
theorem dL_served_1 : decode cL_served 1 = .ok (.iload 4, 2) := by decide +kernel
theorem dL_served_3 : decode cL_served 3 = .ok (.iload_n 3, 1) := by decide +kernel
theorem dL_served_4 : decode cL_served 4 = .ok (.iconst 1, 1) := by decide +kernel
theorem dL_served_5 : decode cL_served 5 = .ok (.invokevirtual 56, 3) := by decide +kernel
theorem dL_served_8 : decode cL_served 8 = .ok (.istore 5, 2) := by decide +kernel
theorem dL_served_10 : decode cL_served 10 = .ok (.aload_n 0, 1) := by decide +kernel
theorem dL_served_11 : decode cL_served 11 = .ok (.iload 4, 2) := by decide +kernel
theorem dL_served_13 : decode cL_served 13 = .ok (.iload_n 3, 1) := by decide +kernel
theorem dL_served_14 : decode cL_served 14 = .ok (.iconst 0, 1) := by decide +kernel
theorem dL_served_15 : decode cL_served 15 = .ok (.invokevirtual 56, 3) := by decide +kernel
theorem dL_served_18 : decode cL_served 18 = .ok (.istore 6, 2) := by decide +kernel
theorem dL_served_20 : decode cL_served 20 = .ok (.aload_n 0, 1) := by decide +kernel
theorem dL_served_21 : decode cL_served 21 = .ok (.iload 4, 2) := by decide +kernel
theorem dL_served_23 : decode cL_served 23 = .ok (.iload_n 3, 1) := by decide +kernel
theorem dL_served_24 : decode cL_served 24 = .ok (.invokevirtual 60, 3) := by decide +kernel
theorem dL_served_27 : decode cL_served 27 = .ok (.iconst 1, 1) := by decide +kernel
theorem dL_served_28 : decode cL_served 28 = .ok (.if_icmp .ne 7, 3) := by decide +kernel
theorem dL_served_31 : decode cL_served 31 = .ok (.iconst 1, 1) := by decide +kernel
theorem dL_served_32 : decode cL_served 32 = .ok (.goto 4, 3) := by decide +kernel
theorem dL_served_35 : decode cL_served 35 = .ok (.iconst 0, 1) := by decide +kernel
theorem dL_served_36 : decode cL_served 36 = .ok (.istore 7, 2) := by decide +kernel
theorem dL_served_38 : decode cL_served 38 = .ok (.iload 5, 2) := by decide +kernel
theorem dL_served_40 : decode cL_served 40 = .ok (.ifCond .ge 7, 3) := by decide +kernel
theorem dL_served_43 : decode cL_served 43 = .ok (.iconst 1, 1) := by decide +kernel
theorem dL_served_44 : decode cL_served 44 = .ok (.goto 4, 3) := by decide +kernel
theorem dL_served_47 : decode cL_served 47 = .ok (.iconst 0, 1) := by decide +kernel
theorem dL_served_48 : decode cL_served 48 = .ok (.iload 7, 2) := by decide +kernel
theorem dL_served_50 : decode cL_served 50 = .ok (.if_icmp .ne 45, 3) := by decide +kernel
theorem dL_served_53 : decode cL_served 53 = .ok (.iload 7, 2) := by decide +kernel
theorem dL_served_55 : decode cL_served 55 = .ok (.ifCond .ne 15, 3) := by decide +kernel
theorem dL_served_58 : decode cL_served 58 = .ok (.iload 6, 2) := by decide +kernel
theorem dL_served_60 : decode cL_served 60 = .ok (.ifCond .lt 35, 3) := by decide +kernel
theorem dL_served_63 : decode cL_served 63 = .ok (.iload 6, 2) := by decide +kernel
theorem dL_served_65 : decode cL_served 65 = .ok (.iload 5, 2) := by decide +kernel
theorem dL_served_67 : decode cL_served 67 = .ok (.if_icmp .gt 28, 3) := by decide +kernel
theorem dL_served_70 : decode cL_served 70 = .ok (.aload_n 0, 1) := by decide +kernel
theorem dL_served_71 : decode cL_served 71 = .ok (.iload_n 3, 1) := by decide +kernel
theorem dL_served_72 : decode cL_served 72 = .ok (.iconst 0, 1) := by decide +kernel
theorem dL_served_73 : decode cL_served 73 = .ok (.invokevirtual 35, 3) := by decide +kernel
theorem dL_served_76 : decode cL_served 76 = .ok (.iload 4, 2) := by decide +kernel
theorem dL_served_78 : decode cL_served 78 = .ok (.ishr, 1) := by decide +kernel
theorem dL_served_79 : decode cL_served 79 = .ok (.iconst 1, 1) := by decide +kernel
theorem dL_served_80 : decode cL_served 80 = .ok (.iand, 1) := by decide +kernel
theorem dL_served_81 : decode cL_served 81 = .ok (.iconst 1, 1) := by decide +kernel
theorem dL_served_82 : decode cL_served 82 = .ok (.if_icmp .ne 15, 3) := by decide +kernel
theorem dL_served_85 : decode cL_served 85 = .ok (.iload 5, 2) := by decide +kernel
theorem dL_served_87 : decode cL_served 87 = .ok (.ifCond .ne 8, 3) := by decide +kernel
theorem dL_served_90 : decode cL_served 90 = .ok (.iload 6, 2) := by decide +kernel
theorem dL_served_92 : decode cL_served 92 = .ok (.ifCond .eq 5, 3) := by decide +kernel
theorem dL_served_95 : decode cL_served 95 = .ok (.iconst 0, 1) := by decide +kernel
theorem dL_served_96 : decode cL_served 96 = .ok (.ireturn, 1) := by decide +kernel
theorem dL_served_97 : decode cL_served 97 = .ok (.aload_n 0, 1) := by decide +kernel
theorem dL_served_98 : decode cL_served 98 = .ok (.iload_n 3, 1) := by decide +kernel
theorem dL_served_99 : decode cL_served 99 = .ok (.invokevirtual 63, 3) := by decide +kernel
theorem dL_served_102 : decode cL_served 102 = .ok (.aload_n 0, 1) := by decide +kernel
theorem dL_served_103 : decode cL_served 103 = .ok (.iload_n 3, 1) := by decide +kernel
theorem dL_served_104 : decode cL_served 104 = .ok (.iconst 0, 1) := by decide +kernel
theorem dL_served_105 : decode cL_served 105 = .ok (.invokevirtual 35, 3) := by decide +kernel
theorem dL_served_108 : decode cL_served 108 = .ok (.if_icmp .ne 19, 3) := by decide +kernel
theorem dL_served_111 : decode cL_served 111 = .ok (.aload_n 0, 1) := by decide +kernel
theorem dL_served_112 : decode cL_served 112 = .ok (.iconst 5, 1) := by decide +kernel
theorem dL_served_113 : decode cL_served 113 = .ok (.invokevirtual 45, 3) := by decide +kernel
theorem dL_served_116 : decode cL_served 116 = .ok (.ifCond .ne 11, 3) := by decide +kernel
theorem dL_served_119 : decode cL_served 119 = .ok (.aload_n 0, 1) := by decide +kernel
theorem dL_served_120 : decode cL_served 120 = .ok (.iconst 2, 1) := by decide +kernel
theorem dL_served_121 : decode cL_served 121 = .ok (.invokevirtual 45, 3) := by decide +kernel
theorem dL_served_124 : decode cL_served 124 = .ok (.ifCond .eq 5, 3) := by decide +kernel
theorem dL_served_127 : decode cL_served 127 = .ok (.iconst 0, 1) := by decide +kernel
theorem dL_served_128 : decode cL_served 128 = .ok (.ireturn, 1) := by decide +kernel
theorem dL_served_129 : decode cL_served 129 = .ok (.iconst 0, 1) := by decide +kernel
theorem dL_served_130 : decode cL_served 130 = .ok (.istore 8, 2) := by decide +kernel
theorem dL_served_132 : decode cL_served 132 = .ok (.iload 8, 2) := by decide +kernel
theorem dL_served_134 : decode cL_served 134 = .ok (.bipush 60, 2) := by decide +kernel
theorem dL_served_136 : decode cL_served 136 = .ok (.if_icmp .ge 89, 3) := by decide +kernel
theorem dL_served_139 : decode cL_served 139 = .ok (.aload_n 0, 1) := by decide +kernel
theorem dL_served_140 : decode cL_served 140 = .ok (.iconst 4, 1) := by decide +kernel
theorem dL_served_141 : decode cL_served 141 = .ok (.invokevirtual 45, 3) := by decide +kernel
theorem dL_served_144 : decode cL_served 144 = .ok (.iload 4, 2) := by decide +kernel
theorem dL_served_146 : decode cL_served 146 = .ok (.ishr, 1) := by decide +kernel
theorem dL_served_147 : decode cL_served 147 = .ok (.iconst 1, 1) := by decide +kernel
theorem dL_served_148 : decode cL_served 148 = .ok (.iand, 1) := by decide +kernel
theorem dL_served_149 : decode cL_served 149 = .ok (.ifCond .ne 76, 3) := by decide +kernel
theorem dL_served_152 : decode cL_served 152 = .ok (.aload_n 1, 1) := by decide +kernel
theorem dL_served_153 : decode cL_served 153 = .ok (.iload_n 2, 1) := by decide +kernel
theorem dL_served_154 : decode cL_served 154 = .ok (.iload 8, 2) := by decide +kernel
theorem dL_served_156 : decode cL_served 156 = .ok (.iconst 5, 1) := by decide +kernel
theorem dL_served_157 : decode cL_served 157 = .ok (.idiv, 1) := by decide +kernel
theorem dL_served_158 : decode cL_served 158 = .ok (.iadd, 1) := by decide +kernel
theorem dL_served_159 : decode cL_served 159 = .ok (.invokestatic 10, 3) := by decide +kernel
theorem dL_served_162 : decode cL_served 162 = .ok (.bipush 6, 2) := by decide +kernel
theorem dL_served_164 : decode cL_served 164 = .ok (.iload 8, 2) := by decide +kernel
theorem dL_served_166 : decode cL_served 166 = .ok (.iconst 5, 1) := by decide +kernel
theorem dL_served_167 : decode cL_served 167 = .ok (.irem, 1) := by decide +kernel
theorem dL_served_168 : decode cL_served 168 = .ok (.imul, 1) := by decide +kernel
theorem dL_served_169 : decode cL_served 169 = .ok (.ishr, 1) := by decide +kernel
theorem dL_served_170 : decode cL_served 170 = .ok (.istore 9, 2) := by decide +kernel
theorem dL_served_172 : decode cL_served 172 = .ok (.iconst 0, 1) := by decide +kernel
theorem dL_served_173 : decode cL_served 173 = .ok (.istore 10, 2) := by decide +kernel
theorem dL_served_175 : decode cL_served 175 = .ok (.iload 10, 2) := by decide +kernel
theorem dL_served_177 : decode cL_served 177 = .ok (.bipush 6, 2) := by decide +kernel
theorem dL_served_179 : decode cL_served 179 = .ok (.if_icmp .ge 34, 3) := by decide +kernel
theorem dL_served_182 : decode cL_served 182 = .ok (.iload 10, 2) := by decide +kernel
theorem dL_served_184 : decode cL_served 184 = .ok (.iload 4, 2) := by decide +kernel
theorem dL_served_186 : decode cL_served 186 = .ok (.if_icmp .eq 14, 3) := by decide +kernel
theorem dL_served_189 : decode cL_served 189 = .ok (.iload 9, 2) := by decide +kernel
theorem dL_served_191 : decode cL_served 191 = .ok (.iload 10, 2) := by decide +kernel
theorem dL_served_193 : decode cL_served 193 = .ok (.ishr, 1) := by decide +kernel
theorem dL_served_194 : decode cL_served 194 = .ok (.iconst 1, 1) := by decide +kernel
theorem dL_served_195 : decode cL_served 195 = .ok (.iand, 1) := by decide +kernel
theorem dL_served_196 : decode cL_served 196 = .ok (.iconst 1, 1) := by decide +kernel
theorem dL_served_197 : decode cL_served 197 = .ok (.if_icmp .ne 10, 3) := by decide +kernel
theorem dL_served_200 : decode cL_served 200 = .ok (.aload_n 0, 1) := by decide +kernel
theorem dL_served_201 : decode cL_served 201 = .ok (.iload 10, 2) := by decide +kernel
theorem dL_served_203 : decode cL_served 203 = .ok (.invokevirtual 66, 3) := by decide +kernel
theorem dL_served_206 : decode cL_served 206 = .ok (.pop, 1) := by decide +kernel
theorem dL_served_207 : decode cL_served 207 = .ok (.iinc 10 1, 3) := by decide +kernel
theorem dL_served_210 : decode cL_served 210 = .ok (.goto (-35), 3) := by decide +kernel
theorem dL_served_213 : decode cL_served 213 = .ok (.aload_n 0, 1) := by decide +kernel
theorem dL_served_214 : decode cL_served 214 = .ok (.iconst 1, 1) := by decide +kernel
theorem dL_served_215 : decode cL_served 215 = .ok (.invokevirtual 69, 3) := by decide +kernel
theorem dL_served_218 : decode cL_served 218 = .ok (.pop, 1) := by decide +kernel
theorem dL_served_219 : decode cL_served 219 = .ok (.iinc 8 1, 3) := by decide +kernel
theorem dL_served_222 : decode cL_served 222 = .ok (.goto (-90), 3) := by decide +kernel
theorem dL_served_225 : decode cL_served 225 = .ok (.aload_n 0, 1) := by decide +kernel
theorem dL_served_226 : decode cL_served 226 = .ok (.iconst 4, 1) := by decide +kernel
theorem dL_served_227 : decode cL_served 227 = .ok (.invokevirtual 45, 3) := by decide +kernel
theorem dL_served_230 : decode cL_served 230 = .ok (.iload 4, 2) := by decide +kernel
theorem dL_served_232 : decode cL_served 232 = .ok (.ishr, 1) := by decide +kernel
theorem dL_served_233 : decode cL_served 233 = .ok (.iconst 1, 1) := by decide +kernel
theorem dL_served_234 : decode cL_served 234 = .ok (.iand, 1) := by decide +kernel
theorem dL_served_235 : decode cL_served 235 = .ok (.iconst 1, 1) := by decide +kernel
theorem dL_served_236 : decode cL_served 236 = .ok (.if_icmp .ne 7, 3) := by decide +kernel
theorem dL_served_239 : decode cL_served 239 = .ok (.iconst 1, 1) := by decide +kernel
theorem dL_served_240 : decode cL_served 240 = .ok (.goto 4, 3) := by decide +kernel
theorem dL_served_243 : decode cL_served 243 = .ok (.iconst 0, 1) := by decide +kernel
theorem dL_served_244 : decode cL_served 244 = .ok (.istore 9, 2) := by decide +kernel
theorem dL_served_246 : decode cL_served 246 = .ok (.iload 9, 2) := by decide +kernel
theorem dL_served_248 : decode cL_served 248 = .ok (.ifCond .eq 35, 3) := by decide +kernel
theorem dL_served_251 : decode cL_served 251 = .ok (.iload 7, 2) := by decide +kernel
theorem dL_served_253 : decode cL_served 253 = .ok (.ifCond .ne 10, 3) := by decide +kernel
theorem dL_served_256 : decode cL_served 256 = .ok (.iload 8, 2) := by decide +kernel
theorem dL_served_258 : decode cL_served 258 = .ok (.iload 5, 2) := by decide +kernel
theorem dL_served_260 : decode cL_served 260 = .ok (.if_icmp .gt 19, 3) := by decide +kernel
theorem dL_served_263 : decode cL_served 263 = .ok (.iload 6, 2) := by decide +kernel
theorem dL_served_265 : decode cL_served 265 = .ok (.ifCond .lt 14, 3) := by decide +kernel
theorem dL_served_268 : decode cL_served 268 = .ok (.iload 8, 2) := by decide +kernel
theorem dL_served_270 : decode cL_served 270 = .ok (.iload 6, 2) := by decide +kernel
theorem dL_served_272 : decode cL_served 272 = .ok (.if_icmp .lt 7, 3) := by decide +kernel
theorem dL_served_275 : decode cL_served 275 = .ok (.iconst 1, 1) := by decide +kernel
theorem dL_served_276 : decode cL_served 276 = .ok (.goto 24, 3) := by decide +kernel
theorem dL_served_279 : decode cL_served 279 = .ok (.iconst 0, 1) := by decide +kernel
theorem dL_served_280 : decode cL_served 280 = .ok (.goto 20, 3) := by decide +kernel
theorem dL_served_283 : decode cL_served 283 = .ok (.iload 7, 2) := by decide +kernel
theorem dL_served_285 : decode cL_served 285 = .ok (.ifCond .ne 10, 3) := by decide +kernel
theorem dL_served_288 : decode cL_served 288 = .ok (.iload 5, 2) := by decide +kernel
theorem dL_served_290 : decode cL_served 290 = .ok (.bipush 60, 2) := by decide +kernel
theorem dL_served_292 : decode cL_served 292 = .ok (.if_icmp .lt 7, 3) := by decide +kernel
theorem dL_served_295 : decode cL_served 295 = .ok (.iconst 1, 1) := by decide +kernel
theorem dL_served_296 : decode cL_served 296 = .ok (.goto 4, 3) := by decide +kernel
theorem dL_served_299 : decode cL_served 299 = .ok (.iconst 0, 1) := by decide +kernel
theorem dL_served_300 : decode cL_served 300 = .ok (.ireturn, 1) := by decide +kernel
