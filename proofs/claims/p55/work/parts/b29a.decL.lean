theorem dL_cell_0 : decode cL_cell 0 = .ok (.iload_n 1, 1) := by decide +kernel
theorem dL_cell_1 : decode cL_cell 1 = .ok (.aload_n 0, 1) := by decide +kernel
theorem dL_cell_2 : decode cL_cell 2 = .ok (.arraylength, 1) := by decide +kernel
theorem dL_cell_3 : decode cL_cell 3 = .ok (.if_icmp .ge 9, 3) := by decide +kernel
theorem dL_cell_6 : decode cL_cell 6 = .ok (.aload_n 0, 1) := by decide +kernel
theorem dL_cell_7 : decode cL_cell 7 = .ok (.iload_n 1, 1) := by decide +kernel
theorem dL_cell_8 : decode cL_cell 8 = .ok (.iaload, 1) := by decide +kernel
theorem dL_cell_9 : decode cL_cell 9 = .ok (.goto 7, 3) := by decide +kernel
theorem dL_cell_12 : decode cL_cell 12 = .ok (.ldc 7, 2) := by decide +kernel
theorem dL_cell_14 : decode cL_cell 14 = .ok (.iload_n 1, 1) := by decide +kernel
theorem dL_cell_15 : decode cL_cell 15 = .ok (.imul, 1) := by decide +kernel
theorem dL_cell_16 : decode cL_cell 16 = .ok (.ireturn, 1) := by decide +kernel
theorem dL_execute_0 : decode cL_execute 0 = .ok (.iconst 0, 1) := by decide +kernel
theorem dL_execute_1 : decode cL_execute 1 = .ok (.istore_n 2, 1) := by decide +kernel
theorem dL_execute_2 : decode cL_execute 2 = .ok (.iload_n 2, 1) := by decide +kernel
theorem dL_execute_3 : decode cL_execute 3 = .ok (.aload_n 1, 1) := by decide +kernel
theorem dL_execute_4 : decode cL_execute 4 = .ok (.invokevirtual 140, 3) := by decide +kernel
theorem dL_execute_7 : decode cL_execute 7 = .ok (.if_icmp .ge 27, 3) := by decide +kernel
theorem dL_execute_10 : decode cL_execute 10 = .ok (.aload_n 0, 1) := by decide +kernel
theorem dL_execute_11 : decode cL_execute 11 = .ok (.aload_n 1, 1) := by decide +kernel
theorem dL_execute_12 : decode cL_execute 12 = .ok (.iload_n 2, 1) := by decide +kernel
theorem dL_execute_13 : decode cL_execute 13 = .ok (.invokevirtual 145, 3) := by decide +kernel
theorem dL_execute_16 : decode cL_execute 16 = .ok (.invokestatic 148, 3) := by decide +kernel
theorem dL_execute_19 : decode cL_execute 19 = .ok (.iload_n 2, 1) := by decide +kernel
theorem dL_execute_20 : decode cL_execute 20 = .ok (.iconst 1, 1) := by decide +kernel
theorem dL_execute_21 : decode cL_execute 21 = .ok (.iadd, 1) := by decide +kernel
theorem dL_execute_22 : decode cL_execute 22 = .ok (.if_icmp .eq 6, 3) := by decide +kernel
theorem dL_execute_25 : decode cL_execute 25 = .ok (.bipush (-9), 2) := by decide +kernel
theorem dL_execute_27 : decode cL_execute 27 = .ok (.ireturn, 1) := by decide +kernel
theorem dL_execute_28 : decode cL_execute 28 = .ok (.iinc 2 1, 3) := by decide +kernel
theorem dL_execute_31 : decode cL_execute 31 = .ok (.goto (-29), 3) := by decide +kernel
theorem dL_execute_34 : decode cL_execute 34 = .ok (.aload_n 0, 1) := by decide +kernel
theorem dL_execute_35 : decode cL_execute 35 = .ok (.invokestatic 153, 3) := by decide +kernel
theorem dL_execute_38 : decode cL_execute 38 = .ok (.ireturn, 1) := by decide +kernel
theorem dL_drawn_0 : decode cL_drawn 0 = .ok (.new 9, 3) := by decide +kernel
theorem dL_drawn_3 : decode cL_drawn 3 = .ok (.dup, 1) := by decide +kernel
theorem dL_drawn_4 : decode cL_drawn 4 = .ok (.invokespecial 157, 3) := by decide +kernel
theorem dL_drawn_7 : decode cL_drawn 7 = .ok (.astore_n 1, 1) := by decide +kernel
theorem dL_drawn_8 : decode cL_drawn 8 = .ok (.aload_n 0, 1) := by decide +kernel
theorem dL_drawn_9 : decode cL_drawn 9 = .ok (.iconst 0, 1) := by decide +kernel
theorem dL_drawn_10 : decode cL_drawn 10 = .ok (.invokestatic 158, 3) := by decide +kernel
theorem dL_drawn_13 : decode cL_drawn 13 = .ok (.iconst 1, 1) := by decide +kernel
theorem dL_drawn_14 : decode cL_drawn 14 = .ok (.iushr, 1) := by decide +kernel
theorem dL_drawn_15 : decode cL_drawn 15 = .ok (.istore_n 2, 1) := by decide +kernel
theorem dL_drawn_16 : decode cL_drawn 16 = .ok (.iconst 2, 1) := by decide +kernel
theorem dL_drawn_17 : decode cL_drawn 17 = .ok (.iload_n 2, 1) := by decide +kernel
theorem dL_drawn_18 : decode cL_drawn 18 = .ok (.iconst 5, 1) := by decide +kernel
theorem dL_drawn_19 : decode cL_drawn 19 = .ok (.irem, 1) := by decide +kernel
theorem dL_drawn_20 : decode cL_drawn 20 = .ok (.iadd, 1) := by decide +kernel
theorem dL_drawn_21 : decode cL_drawn 21 = .ok (.istore_n 3, 1) := by decide +kernel
theorem dL_drawn_22 : decode cL_drawn 22 = .ok (.iconst 2, 1) := by decide +kernel
theorem dL_drawn_23 : decode cL_drawn 23 = .ok (.iload_n 2, 1) := by decide +kernel
theorem dL_drawn_24 : decode cL_drawn 24 = .ok (.iconst 3, 1) := by decide +kernel
theorem dL_drawn_25 : decode cL_drawn 25 = .ok (.iushr, 1) := by decide +kernel
theorem dL_drawn_26 : decode cL_drawn 26 = .ok (.iconst 4, 1) := by decide +kernel
theorem dL_drawn_27 : decode cL_drawn 27 = .ok (.irem, 1) := by decide +kernel
theorem dL_drawn_28 : decode cL_drawn 28 = .ok (.iadd, 1) := by decide +kernel
theorem dL_drawn_29 : decode cL_drawn 29 = .ok (.istore 4, 2) := by decide +kernel
theorem dL_drawn_31 : decode cL_drawn 31 = .ok (.iconst 0, 1) := by decide +kernel
theorem dL_drawn_32 : decode cL_drawn 32 = .ok (.istore 5, 2) := by decide +kernel
theorem dL_drawn_34 : decode cL_drawn 34 = .ok (.iload 5, 2) := by decide +kernel
theorem dL_drawn_36 : decode cL_drawn 36 = .ok (.iload_n 3, 1) := by decide +kernel
theorem dL_drawn_37 : decode cL_drawn 37 = .ok (.if_icmp .ge 20, 3) := by decide +kernel
theorem dL_drawn_40 : decode cL_drawn 40 = .ok (.aload_n 1, 1) := by decide +kernel
theorem dL_drawn_41 : decode cL_drawn 41 = .ok (.invokestatic 162, 3) := by decide +kernel
theorem dL_drawn_44 : decode cL_drawn 44 = .ok (.iload 5, 2) := by decide +kernel
theorem dL_drawn_46 : decode cL_drawn 46 = .ok (.if_icmp .eq 5, 3) := by decide +kernel
theorem dL_drawn_49 : decode cL_drawn 49 = .ok (.aconst_null, 1) := by decide +kernel
theorem dL_drawn_50 : decode cL_drawn 50 = .ok (.areturn, 1) := by decide +kernel
theorem dL_drawn_51 : decode cL_drawn 51 = .ok (.iinc 5 1, 3) := by decide +kernel
theorem dL_drawn_54 : decode cL_drawn 54 = .ok (.goto (-20), 3) := by decide +kernel
theorem dL_drawn_57 : decode cL_drawn 57 = .ok (.iconst 0, 1) := by decide +kernel
theorem dL_drawn_58 : decode cL_drawn 58 = .ok (.istore 5, 2) := by decide +kernel
theorem dL_drawn_60 : decode cL_drawn 60 = .ok (.iload 5, 2) := by decide +kernel
theorem dL_drawn_62 : decode cL_drawn 62 = .ok (.iconst 2, 1) := by decide +kernel
theorem dL_drawn_63 : decode cL_drawn 63 = .ok (.iload_n 2, 1) := by decide +kernel
theorem dL_drawn_64 : decode cL_drawn 64 = .ok (.bipush 6, 2) := by decide +kernel
theorem dL_drawn_66 : decode cL_drawn 66 = .ok (.iushr, 1) := by decide +kernel
theorem dL_drawn_67 : decode cL_drawn 67 = .ok (.bipush 6, 2) := by decide +kernel
theorem dL_drawn_69 : decode cL_drawn 69 = .ok (.irem, 1) := by decide +kernel
theorem dL_drawn_70 : decode cL_drawn 70 = .ok (.iadd, 1) := by decide +kernel
theorem dL_drawn_71 : decode cL_drawn 71 = .ok (.if_icmp .ge 61, 3) := by decide +kernel
theorem dL_drawn_74 : decode cL_drawn 74 = .ok (.aload_n 0, 1) := by decide +kernel
theorem dL_drawn_75 : decode cL_drawn 75 = .ok (.iconst 1, 1) := by decide +kernel
theorem dL_drawn_76 : decode cL_drawn 76 = .ok (.iload 5, 2) := by decide +kernel
theorem dL_drawn_78 : decode cL_drawn 78 = .ok (.iadd, 1) := by decide +kernel
theorem dL_drawn_79 : decode cL_drawn 79 = .ok (.invokestatic 158, 3) := by decide +kernel
theorem dL_drawn_82 : decode cL_drawn 82 = .ok (.iconst 1, 1) := by decide +kernel
theorem dL_drawn_83 : decode cL_drawn 83 = .ok (.iushr, 1) := by decide +kernel
theorem dL_drawn_84 : decode cL_drawn 84 = .ok (.istore 6, 2) := by decide +kernel
theorem dL_drawn_86 : decode cL_drawn 86 = .ok (.aload_n 1, 1) := by decide +kernel
theorem dL_drawn_87 : decode cL_drawn 87 = .ok (.iload 6, 2) := by decide +kernel
theorem dL_drawn_89 : decode cL_drawn 89 = .ok (.iload_n 3, 1) := by decide +kernel
theorem dL_drawn_90 : decode cL_drawn 90 = .ok (.irem, 1) := by decide +kernel
theorem dL_drawn_91 : decode cL_drawn 91 = .ok (.iload 6, 2) := by decide +kernel
theorem dL_drawn_93 : decode cL_drawn 93 = .ok (.iconst 4, 1) := by decide +kernel
theorem dL_drawn_94 : decode cL_drawn 94 = .ok (.iushr, 1) := by decide +kernel
theorem dL_drawn_95 : decode cL_drawn 95 = .ok (.iload_n 3, 1) := by decide +kernel
theorem dL_drawn_96 : decode cL_drawn 96 = .ok (.irem, 1) := by decide +kernel
theorem dL_drawn_97 : decode cL_drawn 97 = .ok (.iconst 1, 1) := by decide +kernel
theorem dL_drawn_98 : decode cL_drawn 98 = .ok (.iload 6, 2) := by decide +kernel
theorem dL_drawn_100 : decode cL_drawn 100 = .ok (.bipush 8, 2) := by decide +kernel
theorem dL_drawn_102 : decode cL_drawn 102 = .ok (.iushr, 1) := by decide +kernel
theorem dL_drawn_103 : decode cL_drawn 103 = .ok (.iload_n 2, 1) := by decide +kernel
theorem dL_drawn_104 : decode cL_drawn 104 = .ok (.iconst 3, 1) := by decide +kernel
theorem dL_drawn_105 : decode cL_drawn 105 = .ok (.irem, 1) := by decide +kernel
theorem dL_drawn_106 : decode cL_drawn 106 = .ok (.ifCond .ne 8, 3) := by decide +kernel
theorem dL_drawn_109 : decode cL_drawn 109 = .ok (.bipush 9, 2) := by decide +kernel
theorem dL_drawn_111 : decode cL_drawn 111 = .ok (.goto 4, 3) := by decide +kernel
theorem dL_drawn_114 : decode cL_drawn 114 = .ok (.iconst 3, 1) := by decide +kernel
theorem dL_drawn_115 : decode cL_drawn 115 = .ok (.irem, 1) := by decide +kernel
theorem dL_drawn_116 : decode cL_drawn 116 = .ok (.iadd, 1) := by decide +kernel
theorem dL_drawn_117 : decode cL_drawn 117 = .ok (.invokestatic 164, 3) := by decide +kernel
theorem dL_drawn_120 : decode cL_drawn 120 = .ok (.iconst (-1), 1) := by decide +kernel
theorem dL_drawn_121 : decode cL_drawn 121 = .ok (.if_icmp .ne 5, 3) := by decide +kernel
theorem dL_drawn_124 : decode cL_drawn 124 = .ok (.aconst_null, 1) := by decide +kernel
theorem dL_drawn_125 : decode cL_drawn 125 = .ok (.areturn, 1) := by decide +kernel
theorem dL_drawn_126 : decode cL_drawn 126 = .ok (.iinc 5 1, 3) := by decide +kernel
theorem dL_drawn_129 : decode cL_drawn 129 = .ok (.goto (-69), 3) := by decide +kernel
theorem dL_drawn_132 : decode cL_drawn 132 = .ok (.iconst 0, 1) := by decide +kernel
theorem dL_drawn_133 : decode cL_drawn 133 = .ok (.istore 5, 2) := by decide +kernel
theorem dL_drawn_135 : decode cL_drawn 135 = .ok (.iload 5, 2) := by decide +kernel
theorem dL_drawn_137 : decode cL_drawn 137 = .ok (.iload 4, 2) := by decide +kernel
theorem dL_drawn_139 : decode cL_drawn 139 = .ok (.if_icmp .ge 33, 3) := by decide +kernel
theorem dL_drawn_142 : decode cL_drawn 142 = .ok (.aload_n 1, 1) := by decide +kernel
theorem dL_drawn_143 : decode cL_drawn 143 = .ok (.aload_n 0, 1) := by decide +kernel
theorem dL_drawn_144 : decode cL_drawn 144 = .ok (.bipush 9, 2) := by decide +kernel
theorem dL_drawn_146 : decode cL_drawn 146 = .ok (.iload 5, 2) := by decide +kernel
theorem dL_drawn_148 : decode cL_drawn 148 = .ok (.iadd, 1) := by decide +kernel
theorem dL_drawn_149 : decode cL_drawn 149 = .ok (.invokestatic 158, 3) := by decide +kernel
theorem dL_drawn_152 : decode cL_drawn 152 = .ok (.iconst 1, 1) := by decide +kernel
theorem dL_drawn_153 : decode cL_drawn 153 = .ok (.iushr, 1) := by decide +kernel
theorem dL_drawn_154 : decode cL_drawn 154 = .ok (.iload_n 3, 1) := by decide +kernel
theorem dL_drawn_155 : decode cL_drawn 155 = .ok (.irem, 1) := by decide +kernel
theorem dL_drawn_156 : decode cL_drawn 156 = .ok (.invokestatic 167, 3) := by decide +kernel
theorem dL_drawn_159 : decode cL_drawn 159 = .ok (.iload 5, 2) := by decide +kernel
theorem dL_drawn_161 : decode cL_drawn 161 = .ok (.if_icmp .eq 5, 3) := by decide +kernel
theorem dL_drawn_164 : decode cL_drawn 164 = .ok (.aconst_null, 1) := by decide +kernel
theorem dL_drawn_165 : decode cL_drawn 165 = .ok (.areturn, 1) := by decide +kernel
theorem dL_drawn_166 : decode cL_drawn 166 = .ok (.iinc 5 1, 3) := by decide +kernel
theorem dL_drawn_169 : decode cL_drawn 169 = .ok (.goto (-34), 3) := by decide +kernel
theorem dL_drawn_172 : decode cL_drawn 172 = .ok (.iconst 0, 1) := by decide +kernel
theorem dL_drawn_173 : decode cL_drawn 173 = .ok (.istore 5, 2) := by decide +kernel
theorem dL_drawn_175 : decode cL_drawn 175 = .ok (.iload 5, 2) := by decide +kernel
theorem dL_drawn_177 : decode cL_drawn 177 = .ok (.bipush 9, 2) := by decide +kernel
theorem dL_drawn_179 : decode cL_drawn 179 = .ok (.if_icmp .ge 146, 3) := by decide +kernel
theorem dL_drawn_182 : decode cL_drawn 182 = .ok (.aload_n 0, 1) := by decide +kernel
theorem dL_drawn_183 : decode cL_drawn 183 = .ok (.bipush 14, 2) := by decide +kernel
theorem dL_drawn_185 : decode cL_drawn 185 = .ok (.iload 5, 2) := by decide +kernel
theorem dL_drawn_187 : decode cL_drawn 187 = .ok (.iadd, 1) := by decide +kernel
theorem dL_drawn_188 : decode cL_drawn 188 = .ok (.invokestatic 158, 3) := by decide +kernel
theorem dL_drawn_191 : decode cL_drawn 191 = .ok (.iconst 1, 1) := by decide +kernel
theorem dL_drawn_192 : decode cL_drawn 192 = .ok (.iushr, 1) := by decide +kernel
theorem dL_drawn_193 : decode cL_drawn 193 = .ok (.istore 6, 2) := by decide +kernel
theorem dL_drawn_195 : decode cL_drawn 195 = .ok (.iload 6, 2) := by decide +kernel
theorem dL_drawn_197 : decode cL_drawn 197 = .ok (.iconst 3, 1) := by decide +kernel
theorem dL_drawn_198 : decode cL_drawn 198 = .ok (.iushr, 1) := by decide +kernel
theorem dL_drawn_199 : decode cL_drawn 199 = .ok (.iload 4, 2) := by decide +kernel
theorem dL_drawn_201 : decode cL_drawn 201 = .ok (.irem, 1) := by decide +kernel
theorem dL_drawn_202 : decode cL_drawn 202 = .ok (.istore 7, 2) := by decide +kernel
theorem dL_drawn_204 : decode cL_drawn 204 = .ok (.iload 6, 2) := by decide +kernel
theorem dL_drawn_206 : decode cL_drawn 206 = .ok (.bipush 8, 2) := by decide +kernel
theorem dL_drawn_208 : decode cL_drawn 208 = .ok (.irem, 1) := by decide +kernel
theorem dL_drawn_209 : decode cL_drawn 209 = .ok (.iconst 4, 1) := by decide +kernel
theorem dL_drawn_210 : decode cL_drawn 210 = .ok (.if_icmp .ge 28, 3) := by decide +kernel
theorem dL_drawn_213 : decode cL_drawn 213 = .ok (.aload_n 1, 1) := by decide +kernel
theorem dL_drawn_214 : decode cL_drawn 214 = .ok (.iload 7, 2) := by decide +kernel
theorem dL_drawn_216 : decode cL_drawn 216 = .ok (.iload 6, 2) := by decide +kernel
theorem dL_drawn_218 : decode cL_drawn 218 = .ok (.bipush 6, 2) := by decide +kernel
theorem dL_drawn_220 : decode cL_drawn 220 = .ok (.iushr, 1) := by decide +kernel
theorem dL_drawn_221 : decode cL_drawn 221 = .ok (.iload 4, 2) := by decide +kernel
theorem dL_drawn_223 : decode cL_drawn 223 = .ok (.irem, 1) := by decide +kernel
theorem dL_drawn_224 : decode cL_drawn 224 = .ok (.iload 6, 2) := by decide +kernel
theorem dL_drawn_226 : decode cL_drawn 226 = .ok (.bipush 9, 2) := by decide +kernel
theorem dL_drawn_228 : decode cL_drawn 228 = .ok (.iushr, 1) := by decide +kernel
theorem dL_drawn_229 : decode cL_drawn 229 = .ok (.bipush 16, 2) := by decide +kernel
theorem dL_drawn_231 : decode cL_drawn 231 = .ok (.irem, 1) := by decide +kernel
theorem dL_drawn_232 : decode cL_drawn 232 = .ok (.invokestatic 170, 3) := by decide +kernel
theorem dL_drawn_235 : decode cL_drawn 235 = .ok (.goto 74, 3) := by decide +kernel
theorem dL_drawn_238 : decode cL_drawn 238 = .ok (.iload 6, 2) := by decide +kernel
theorem dL_drawn_240 : decode cL_drawn 240 = .ok (.bipush 8, 2) := by decide +kernel
theorem dL_drawn_242 : decode cL_drawn 242 = .ok (.irem, 1) := by decide +kernel
theorem dL_drawn_243 : decode cL_drawn 243 = .ok (.iconst 4, 1) := by decide +kernel
theorem dL_drawn_244 : decode cL_drawn 244 = .ok (.if_icmp .ne 27, 3) := by decide +kernel
theorem dL_drawn_247 : decode cL_drawn 247 = .ok (.aload_n 1, 1) := by decide +kernel
theorem dL_drawn_248 : decode cL_drawn 248 = .ok (.iload 7, 2) := by decide +kernel
theorem dL_drawn_250 : decode cL_drawn 250 = .ok (.iload 6, 2) := by decide +kernel
theorem dL_drawn_252 : decode cL_drawn 252 = .ok (.bipush 16, 2) := by decide +kernel
theorem dL_drawn_254 : decode cL_drawn 254 = .ok (.irem, 1) := by decide +kernel
theorem dL_drawn_255 : decode cL_drawn 255 = .ok (.bipush 7, 2) := by decide +kernel
theorem dL_drawn_257 : decode cL_drawn 257 = .ok (.if_icmp .le 7, 3) := by decide +kernel
theorem dL_drawn_260 : decode cL_drawn 260 = .ok (.iconst 1, 1) := by decide +kernel
theorem dL_drawn_261 : decode cL_drawn 261 = .ok (.goto 4, 3) := by decide +kernel
theorem dL_drawn_264 : decode cL_drawn 264 = .ok (.iconst 0, 1) := by decide +kernel
theorem dL_drawn_265 : decode cL_drawn 265 = .ok (.invokestatic 172, 3) := by decide +kernel
theorem dL_drawn_268 : decode cL_drawn 268 = .ok (.goto 41, 3) := by decide +kernel
theorem dL_drawn_271 : decode cL_drawn 271 = .ok (.iload 6, 2) := by decide +kernel
theorem dL_drawn_273 : decode cL_drawn 273 = .ok (.bipush 8, 2) := by decide +kernel
theorem dL_drawn_275 : decode cL_drawn 275 = .ok (.irem, 1) := by decide +kernel
theorem dL_drawn_276 : decode cL_drawn 276 = .ok (.iconst 5, 1) := by decide +kernel
theorem dL_drawn_277 : decode cL_drawn 277 = .ok (.if_icmp .ne 19, 3) := by decide +kernel
theorem dL_drawn_280 : decode cL_drawn 280 = .ok (.aload_n 1, 1) := by decide +kernel
theorem dL_drawn_281 : decode cL_drawn 281 = .ok (.iload 7, 2) := by decide +kernel
theorem dL_drawn_283 : decode cL_drawn 283 = .ok (.iload 6, 2) := by decide +kernel
theorem dL_drawn_285 : decode cL_drawn 285 = .ok (.bipush 6, 2) := by decide +kernel
theorem dL_drawn_287 : decode cL_drawn 287 = .ok (.iushr, 1) := by decide +kernel
theorem dL_drawn_288 : decode cL_drawn 288 = .ok (.iload_n 3, 1) := by decide +kernel
theorem dL_drawn_289 : decode cL_drawn 289 = .ok (.irem, 1) := by decide +kernel
theorem dL_drawn_290 : decode cL_drawn 290 = .ok (.invokestatic 176, 3) := by decide +kernel
theorem dL_drawn_293 : decode cL_drawn 293 = .ok (.goto 16, 3) := by decide +kernel
theorem dL_drawn_296 : decode cL_drawn 296 = .ok (.aload_n 1, 1) := by decide +kernel
theorem dL_drawn_297 : decode cL_drawn 297 = .ok (.iconst 1, 1) := by decide +kernel
theorem dL_drawn_298 : decode cL_drawn 298 = .ok (.iload 6, 2) := by decide +kernel
theorem dL_drawn_300 : decode cL_drawn 300 = .ok (.bipush 9, 2) := by decide +kernel
theorem dL_drawn_302 : decode cL_drawn 302 = .ok (.iushr, 1) := by decide +kernel
theorem dL_drawn_303 : decode cL_drawn 303 = .ok (.iconst 5, 1) := by decide +kernel
theorem dL_drawn_304 : decode cL_drawn 304 = .ok (.irem, 1) := by decide +kernel
theorem dL_drawn_305 : decode cL_drawn 305 = .ok (.iadd, 1) := by decide +kernel
theorem dL_drawn_306 : decode cL_drawn 306 = .ok (.invokestatic 179, 3) := by decide +kernel
theorem dL_drawn_309 : decode cL_drawn 309 = .ok (.istore 8, 2) := by decide +kernel
theorem dL_drawn_311 : decode cL_drawn 311 = .ok (.iload 8, 2) := by decide +kernel
theorem dL_drawn_313 : decode cL_drawn 313 = .ok (.iconst (-1), 1) := by decide +kernel
theorem dL_drawn_314 : decode cL_drawn 314 = .ok (.if_icmp .ne 5, 3) := by decide +kernel
theorem dL_drawn_317 : decode cL_drawn 317 = .ok (.aconst_null, 1) := by decide +kernel
theorem dL_drawn_318 : decode cL_drawn 318 = .ok (.areturn, 1) := by decide +kernel
theorem dL_drawn_319 : decode cL_drawn 319 = .ok (.iinc 5 1, 3) := by decide +kernel
theorem dL_drawn_322 : decode cL_drawn 322 = .ok (.goto (-147), 3) := by decide +kernel
theorem dL_drawn_325 : decode cL_drawn 325 = .ok (.aload_n 1, 1) := by decide +kernel
theorem dL_drawn_326 : decode cL_drawn 326 = .ok (.areturn, 1) := by decide +kernel
theorem dL_law_0 : decode cL_law 0 = .ok (.aload_n 0, 1) := by decide +kernel
theorem dL_law_1 : decode cL_law 1 = .ok (.invokestatic 182, 3) := by decide +kernel
theorem dL_law_4 : decode cL_law 4 = .ok (.astore_n 1, 1) := by decide +kernel
theorem dL_law_5 : decode cL_law 5 = .ok (.aload_n 1, 1) := by decide +kernel
theorem dL_law_6 : decode cL_law 6 = .ok (.ifnull 43, 3) := by decide +kernel
theorem dL_law_9 : decode cL_law 9 = .ok (.aload_n 1, 1) := by decide +kernel
theorem dL_law_10 : decode cL_law 10 = .ok (.invokestatic 186, 3) := by decide +kernel
theorem dL_law_13 : decode cL_law 13 = .ok (.ifCond .eq 36, 3) := by decide +kernel
theorem dL_law_16 : decode cL_law 16 = .ok (.aload_n 1, 1) := by decide +kernel
theorem dL_law_17 : decode cL_law 17 = .ok (.invokestatic 190, 3) := by decide +kernel
theorem dL_law_20 : decode cL_law 20 = .ok (.ifCond .eq 29, 3) := by decide +kernel
theorem dL_law_23 : decode cL_law 23 = .ok (.aload_n 1, 1) := by decide +kernel
theorem dL_law_24 : decode cL_law 24 = .ok (.invokestatic 193, 3) := by decide +kernel
theorem dL_law_27 : decode cL_law 27 = .ok (.ifCond .eq 22, 3) := by decide +kernel
theorem dL_law_30 : decode cL_law 30 = .ok (.aload_n 1, 1) := by decide +kernel
theorem dL_law_31 : decode cL_law 31 = .ok (.invokestatic 196, 3) := by decide +kernel
theorem dL_law_34 : decode cL_law 34 = .ok (.ifCond .eq 15, 3) := by decide +kernel
theorem dL_law_37 : decode cL_law 37 = .ok (.aload_n 0, 1) := by decide +kernel
theorem dL_law_38 : decode cL_law 38 = .ok (.aload_n 1, 1) := by decide +kernel
theorem dL_law_39 : decode cL_law 39 = .ok (.invokestatic 199, 3) := by decide +kernel
theorem dL_law_42 : decode cL_law 42 = .ok (.ifCond .eq 7, 3) := by decide +kernel
theorem dL_law_45 : decode cL_law 45 = .ok (.iconst 1, 1) := by decide +kernel
theorem dL_law_46 : decode cL_law 46 = .ok (.goto 4, 3) := by decide +kernel
theorem dL_law_49 : decode cL_law 49 = .ok (.iconst 0, 1) := by decide +kernel
theorem dL_law_50 : decode cL_law 50 = .ok (.ireturn, 1) := by decide +kernel
theorem dL_nearest_0 : decode cL_nearest 0 = .ok (.iload_n 1, 1) := by decide +kernel
theorem dL_nearest_1 : decode cL_nearest 1 = .ok (.iload_n 2, 1) := by decide +kernel
theorem dL_nearest_2 : decode cL_nearest 2 = .ok (.if_icmp .ne 7, 3) := by decide +kernel
theorem dL_nearest_5 : decode cL_nearest 5 = .ok (.iconst 0, 1) := by decide +kernel
theorem dL_nearest_6 : decode cL_nearest 6 = .ok (.goto 6, 3) := by decide +kernel
theorem dL_nearest_9 : decode cL_nearest 9 = .ok (.sipush 999, 3) := by decide +kernel
theorem dL_nearest_12 : decode cL_nearest 12 = .ok (.istore 4, 2) := by decide +kernel
theorem dL_nearest_14 : decode cL_nearest 14 = .ok (.iconst 0, 1) := by decide +kernel
theorem dL_nearest_15 : decode cL_nearest 15 = .ok (.istore 5, 2) := by decide +kernel
theorem dL_nearest_17 : decode cL_nearest 17 = .ok (.iload 5, 2) := by decide +kernel
theorem dL_nearest_19 : decode cL_nearest 19 = .ok (.aload_n 0, 1) := by decide +kernel
theorem dL_nearest_20 : decode cL_nearest 20 = .ok (.invokevirtual 203, 3) := by decide +kernel
theorem dL_nearest_23 : decode cL_nearest 23 = .ok (.if_icmp .ge 52, 3) := by decide +kernel
theorem dL_nearest_26 : decode cL_nearest 26 = .ok (.iload_n 3, 1) := by decide +kernel
theorem dL_nearest_27 : decode cL_nearest 27 = .ok (.ifCond .le 48, 3) := by decide +kernel
theorem dL_nearest_30 : decode cL_nearest 30 = .ok (.iload 4, 2) := by decide +kernel
theorem dL_nearest_32 : decode cL_nearest 32 = .ok (.ifCond .le 43, 3) := by decide +kernel
theorem dL_nearest_35 : decode cL_nearest 35 = .ok (.aload_n 0, 1) := by decide +kernel
theorem dL_nearest_36 : decode cL_nearest 36 = .ok (.iload_n 1, 1) := by decide +kernel
theorem dL_nearest_37 : decode cL_nearest 37 = .ok (.iload 5, 2) := by decide +kernel
theorem dL_nearest_39 : decode cL_nearest 39 = .ok (.invokestatic 206, 3) := by decide +kernel
theorem dL_nearest_42 : decode cL_nearest 42 = .ok (.istore 6, 2) := by decide +kernel
theorem dL_nearest_44 : decode cL_nearest 44 = .ok (.iload 6, 2) := by decide +kernel
theorem dL_nearest_46 : decode cL_nearest 46 = .ok (.ifCond .le 23, 3) := by decide +kernel
theorem dL_nearest_49 : decode cL_nearest 49 = .ok (.iload 4, 2) := by decide +kernel
theorem dL_nearest_51 : decode cL_nearest 51 = .ok (.iload 6, 2) := by decide +kernel
theorem dL_nearest_53 : decode cL_nearest 53 = .ok (.aload_n 0, 1) := by decide +kernel
theorem dL_nearest_54 : decode cL_nearest 54 = .ok (.iload 5, 2) := by decide +kernel
theorem dL_nearest_56 : decode cL_nearest 56 = .ok (.iload_n 2, 1) := by decide +kernel
theorem dL_nearest_57 : decode cL_nearest 57 = .ok (.iload_n 3, 1) := by decide +kernel
theorem dL_nearest_58 : decode cL_nearest 58 = .ok (.iconst 1, 1) := by decide +kernel
theorem dL_nearest_59 : decode cL_nearest 59 = .ok (.isub, 1) := by decide +kernel
theorem dL_nearest_60 : decode cL_nearest 60 = .ok (.invokestatic 209, 3) := by decide +kernel
theorem dL_nearest_63 : decode cL_nearest 63 = .ok (.iadd, 1) := by decide +kernel
theorem dL_nearest_64 : decode cL_nearest 64 = .ok (.invokestatic 212, 3) := by decide +kernel
theorem dL_nearest_67 : decode cL_nearest 67 = .ok (.istore 4, 2) := by decide +kernel
theorem dL_nearest_69 : decode cL_nearest 69 = .ok (.iinc 5 1, 3) := by decide +kernel
theorem dL_nearest_72 : decode cL_nearest 72 = .ok (.goto (-55), 3) := by decide +kernel
theorem dL_nearest_75 : decode cL_nearest 75 = .ok (.iload 4, 2) := by decide +kernel
theorem dL_nearest_77 : decode cL_nearest 77 = .ok (.ireturn, 1) := by decide +kernel
