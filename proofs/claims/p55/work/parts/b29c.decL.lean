theorem dL_hares_0 : decode cL_hares 0 = .ok (.aload_n 0, 1) := by decide +kernel
theorem dL_hares_1 : decode cL_hares 1 = .ok (.invokevirtual 243, 3) := by decide +kernel
theorem dL_hares_4 : decode cL_hares 4 = .ok (.istore_n 1, 1) := by decide +kernel
theorem dL_hares_5 : decode cL_hares 5 = .ok (.iconst 0, 1) := by decide +kernel
theorem dL_hares_6 : decode cL_hares 6 = .ok (.istore_n 2, 1) := by decide +kernel
theorem dL_hares_7 : decode cL_hares 7 = .ok (.iconst 0, 1) := by decide +kernel
theorem dL_hares_8 : decode cL_hares 8 = .ok (.istore_n 3, 1) := by decide +kernel
theorem dL_hares_9 : decode cL_hares 9 = .ok (.iload_n 3, 1) := by decide +kernel
theorem dL_hares_10 : decode cL_hares 10 = .ok (.iload_n 1, 1) := by decide +kernel
theorem dL_hares_11 : decode cL_hares 11 = .ok (.if_icmp .ge 229, 3) := by decide +kernel
theorem dL_hares_14 : decode cL_hares 14 = .ok (.iconst 0, 1) := by decide +kernel
theorem dL_hares_15 : decode cL_hares 15 = .ok (.istore 4, 2) := by decide +kernel
theorem dL_hares_17 : decode cL_hares 17 = .ok (.iconst 0, 1) := by decide +kernel
theorem dL_hares_18 : decode cL_hares 18 = .ok (.istore 5, 2) := by decide +kernel
theorem dL_hares_20 : decode cL_hares 20 = .ok (.iload 5, 2) := by decide +kernel
theorem dL_hares_22 : decode cL_hares 22 = .ok (.aload_n 0, 1) := by decide +kernel
theorem dL_hares_23 : decode cL_hares 23 = .ok (.invokevirtual 246, 3) := by decide +kernel
theorem dL_hares_26 : decode cL_hares 26 = .ok (.if_icmp .ge 50, 3) := by decide +kernel
theorem dL_hares_29 : decode cL_hares 29 = .ok (.aload_n 0, 1) := by decide +kernel
theorem dL_hares_30 : decode cL_hares 30 = .ok (.iload 5, 2) := by decide +kernel
theorem dL_hares_32 : decode cL_hares 32 = .ok (.invokestatic 249, 3) := by decide +kernel
theorem dL_hares_35 : decode cL_hares 35 = .ok (.istore 6, 2) := by decide +kernel
theorem dL_hares_37 : decode cL_hares 37 = .ok (.iload 4, 2) := by decide +kernel
theorem dL_hares_39 : decode cL_hares 39 = .ok (.ifCond .ne 24, 3) := by decide +kernel
theorem dL_hares_42 : decode cL_hares 42 = .ok (.aload_n 0, 1) := by decide +kernel
theorem dL_hares_43 : decode cL_hares 43 = .ok (.iload 6, 2) := by decide +kernel
theorem dL_hares_45 : decode cL_hares 45 = .ok (.invokestatic 252, 3) := by decide +kernel
theorem dL_hares_48 : decode cL_hares 48 = .ok (.bipush 100, 2) := by decide +kernel
theorem dL_hares_50 : decode cL_hares 50 = .ok (.if_icmp .ne 17, 3) := by decide +kernel
theorem dL_hares_53 : decode cL_hares 53 = .ok (.aload_n 0, 1) := by decide +kernel
theorem dL_hares_54 : decode cL_hares 54 = .ok (.iload 6, 2) := by decide +kernel
theorem dL_hares_56 : decode cL_hares 56 = .ok (.invokestatic 254, 3) := by decide +kernel
theorem dL_hares_59 : decode cL_hares 59 = .ok (.iload_n 3, 1) := by decide +kernel
theorem dL_hares_60 : decode cL_hares 60 = .ok (.if_icmp .ne 7, 3) := by decide +kernel
theorem dL_hares_63 : decode cL_hares 63 = .ok (.iconst 1, 1) := by decide +kernel
theorem dL_hares_64 : decode cL_hares 64 = .ok (.goto 4, 3) := by decide +kernel
theorem dL_hares_67 : decode cL_hares 67 = .ok (.iconst 0, 1) := by decide +kernel
theorem dL_hares_68 : decode cL_hares 68 = .ok (.istore 4, 2) := by decide +kernel
theorem dL_hares_70 : decode cL_hares 70 = .ok (.iinc 5 1, 3) := by decide +kernel
theorem dL_hares_73 : decode cL_hares 73 = .ok (.goto (-53), 3) := by decide +kernel
theorem dL_hares_76 : decode cL_hares 76 = .ok (.iload_n 3, 1) := by decide +kernel
theorem dL_hares_77 : decode cL_hares 77 = .ok (.ifCond .ne 7, 3) := by decide +kernel
theorem dL_hares_80 : decode cL_hares 80 = .ok (.iconst (-1), 1) := by decide +kernel
theorem dL_hares_81 : decode cL_hares 81 = .ok (.goto 10, 3) := by decide +kernel
theorem dL_hares_84 : decode cL_hares 84 = .ok (.aload_n 0, 1) := by decide +kernel
theorem dL_hares_85 : decode cL_hares 85 = .ok (.iload_n 3, 1) := by decide +kernel
theorem dL_hares_86 : decode cL_hares 86 = .ok (.iconst 1, 1) := by decide +kernel
theorem dL_hares_87 : decode cL_hares 87 = .ok (.isub, 1) := by decide +kernel
theorem dL_hares_88 : decode cL_hares 88 = .ok (.invokestatic 256, 3) := by decide +kernel
theorem dL_hares_91 : decode cL_hares 91 = .ok (.istore 5, 2) := by decide +kernel
theorem dL_hares_93 : decode cL_hares 93 = .ok (.aload_n 0, 1) := by decide +kernel
theorem dL_hares_94 : decode cL_hares 94 = .ok (.iload_n 3, 1) := by decide +kernel
theorem dL_hares_95 : decode cL_hares 95 = .ok (.invokestatic 256, 3) := by decide +kernel
theorem dL_hares_98 : decode cL_hares 98 = .ok (.istore 6, 2) := by decide +kernel
theorem dL_hares_100 : decode cL_hares 100 = .ok (.iload_n 3, 1) := by decide +kernel
theorem dL_hares_101 : decode cL_hares 101 = .ok (.ifCond .ne 7, 3) := by decide +kernel
theorem dL_hares_104 : decode cL_hares 104 = .ok (.iconst 1, 1) := by decide +kernel
theorem dL_hares_105 : decode cL_hares 105 = .ok (.goto 16, 3) := by decide +kernel
theorem dL_hares_108 : decode cL_hares 108 = .ok (.aload_n 0, 1) := by decide +kernel
theorem dL_hares_109 : decode cL_hares 109 = .ok (.iload 5, 2) := by decide +kernel
theorem dL_hares_111 : decode cL_hares 111 = .ok (.invokestatic 259, 3) := by decide +kernel
theorem dL_hares_114 : decode cL_hares 114 = .ok (.aload_n 0, 1) := by decide +kernel
theorem dL_hares_115 : decode cL_hares 115 = .ok (.iload 6, 2) := by decide +kernel
theorem dL_hares_117 : decode cL_hares 117 = .ok (.invokestatic 259, 3) := by decide +kernel
theorem dL_hares_120 : decode cL_hares 120 = .ok (.isub, 1) := by decide +kernel
theorem dL_hares_121 : decode cL_hares 121 = .ok (.istore 7, 2) := by decide +kernel
theorem dL_hares_123 : decode cL_hares 123 = .ok (.iload_n 2, 1) := by decide +kernel
theorem dL_hares_124 : decode cL_hares 124 = .ok (.aload_n 0, 1) := by decide +kernel
theorem dL_hares_125 : decode cL_hares 125 = .ok (.iload_n 3, 1) := by decide +kernel
theorem dL_hares_126 : decode cL_hares 126 = .ok (.invokestatic 259, 3) := by decide +kernel
theorem dL_hares_129 : decode cL_hares 129 = .ok (.iadd, 1) := by decide +kernel
theorem dL_hares_130 : decode cL_hares 130 = .ok (.istore_n 2, 1) := by decide +kernel
theorem dL_hares_131 : decode cL_hares 131 = .ok (.aload_n 0, 1) := by decide +kernel
theorem dL_hares_132 : decode cL_hares 132 = .ok (.iload_n 3, 1) := by decide +kernel
theorem dL_hares_133 : decode cL_hares 133 = .ok (.invokestatic 261, 3) := by decide +kernel
theorem dL_hares_136 : decode cL_hares 136 = .ok (.ifCond .lt 66, 3) := by decide +kernel
theorem dL_hares_139 : decode cL_hares 139 = .ok (.aload_n 0, 1) := by decide +kernel
theorem dL_hares_140 : decode cL_hares 140 = .ok (.iload_n 3, 1) := by decide +kernel
theorem dL_hares_141 : decode cL_hares 141 = .ok (.invokestatic 261, 3) := by decide +kernel
theorem dL_hares_144 : decode cL_hares 144 = .ok (.aload_n 0, 1) := by decide +kernel
theorem dL_hares_145 : decode cL_hares 145 = .ok (.invokevirtual 203, 3) := by decide +kernel
theorem dL_hares_148 : decode cL_hares 148 = .ok (.if_icmp .ge 54, 3) := by decide +kernel
theorem dL_hares_151 : decode cL_hares 151 = .ok (.aload_n 0, 1) := by decide +kernel
theorem dL_hares_152 : decode cL_hares 152 = .ok (.iload_n 3, 1) := by decide +kernel
theorem dL_hares_153 : decode cL_hares 153 = .ok (.invokestatic 263, 3) := by decide +kernel
theorem dL_hares_156 : decode cL_hares 156 = .ok (.iload 4, 2) := by decide +kernel
theorem dL_hares_158 : decode cL_hares 158 = .ok (.ifCond .eq 7, 3) := by decide +kernel
theorem dL_hares_161 : decode cL_hares 161 = .ok (.iconst 1, 1) := by decide +kernel
theorem dL_hares_162 : decode cL_hares 162 = .ok (.goto 4, 3) := by decide +kernel
theorem dL_hares_165 : decode cL_hares 165 = .ok (.iconst 0, 1) := by decide +kernel
theorem dL_hares_166 : decode cL_hares 166 = .ok (.if_icmp .ne 36, 3) := by decide +kernel
theorem dL_hares_169 : decode cL_hares 169 = .ok (.aload_n 0, 1) := by decide +kernel
theorem dL_hares_170 : decode cL_hares 170 = .ok (.iload_n 3, 1) := by decide +kernel
theorem dL_hares_171 : decode cL_hares 171 = .ok (.invokestatic 259, 3) := by decide +kernel
theorem dL_hares_174 : decode cL_hares 174 = .ok (.ifCond .le 7, 3) := by decide +kernel
theorem dL_hares_177 : decode cL_hares 177 = .ok (.iconst 1, 1) := by decide +kernel
theorem dL_hares_178 : decode cL_hares 178 = .ok (.goto 4, 3) := by decide +kernel
theorem dL_hares_181 : decode cL_hares 181 = .ok (.iconst 0, 1) := by decide +kernel
theorem dL_hares_182 : decode cL_hares 182 = .ok (.aload_n 0, 1) := by decide +kernel
theorem dL_hares_183 : decode cL_hares 183 = .ok (.iload_n 3, 1) := by decide +kernel
theorem dL_hares_184 : decode cL_hares 184 = .ok (.invokestatic 265, 3) := by decide +kernel
theorem dL_hares_187 : decode cL_hares 187 = .ok (.ifCond .lt 7, 3) := by decide +kernel
theorem dL_hares_190 : decode cL_hares 190 = .ok (.iconst 1, 1) := by decide +kernel
theorem dL_hares_191 : decode cL_hares 191 = .ok (.goto 4, 3) := by decide +kernel
theorem dL_hares_194 : decode cL_hares 194 = .ok (.iconst 0, 1) := by decide +kernel
theorem dL_hares_195 : decode cL_hares 195 = .ok (.if_icmp .ne 7, 3) := by decide +kernel
theorem dL_hares_198 : decode cL_hares 198 = .ok (.iconst 1, 1) := by decide +kernel
theorem dL_hares_199 : decode cL_hares 199 = .ok (.goto 4, 3) := by decide +kernel
theorem dL_hares_202 : decode cL_hares 202 = .ok (.iconst 0, 1) := by decide +kernel
theorem dL_hares_203 : decode cL_hares 203 = .ok (.istore 8, 2) := by decide +kernel
theorem dL_hares_205 : decode cL_hares 205 = .ok (.iload 8, 2) := by decide +kernel
theorem dL_hares_207 : decode cL_hares 207 = .ok (.ifCond .eq 25, 3) := by decide +kernel
theorem dL_hares_210 : decode cL_hares 210 = .ok (.iload 6, 2) := by decide +kernel
theorem dL_hares_212 : decode cL_hares 212 = .ok (.ifCond .lt 20, 3) := by decide +kernel
theorem dL_hares_215 : decode cL_hares 215 = .ok (.iload 7, 2) := by decide +kernel
theorem dL_hares_217 : decode cL_hares 217 = .ok (.ifCond .lt 15, 3) := by decide +kernel
theorem dL_hares_220 : decode cL_hares 220 = .ok (.iload 7, 2) := by decide +kernel
theorem dL_hares_222 : decode cL_hares 222 = .ok (.ifCond .ne 12, 3) := by decide +kernel
theorem dL_hares_225 : decode cL_hares 225 = .ok (.iload 5, 2) := by decide +kernel
theorem dL_hares_227 : decode cL_hares 227 = .ok (.iload 6, 2) := by decide +kernel
theorem dL_hares_229 : decode cL_hares 229 = .ok (.if_icmp .le 5, 3) := by decide +kernel
theorem dL_hares_232 : decode cL_hares 232 = .ok (.iconst 0, 1) := by decide +kernel
theorem dL_hares_233 : decode cL_hares 233 = .ok (.ireturn, 1) := by decide +kernel
theorem dL_hares_234 : decode cL_hares 234 = .ok (.iinc 3 1, 3) := by decide +kernel
theorem dL_hares_237 : decode cL_hares 237 = .ok (.goto (-228), 3) := by decide +kernel
theorem dL_hares_240 : decode cL_hares 240 = .ok (.iload_n 2, 1) := by decide +kernel
theorem dL_hares_241 : decode cL_hares 241 = .ok (.aload_n 0, 1) := by decide +kernel
theorem dL_hares_242 : decode cL_hares 242 = .ok (.invokevirtual 268, 3) := by decide +kernel
theorem dL_hares_245 : decode cL_hares 245 = .ok (.if_icmp .ne 67, 3) := by decide +kernel
theorem dL_hares_248 : decode cL_hares 248 = .ok (.aload_n 0, 1) := by decide +kernel
theorem dL_hares_249 : decode cL_hares 249 = .ok (.iload_n 1, 1) := by decide +kernel
theorem dL_hares_250 : decode cL_hares 250 = .ok (.invokestatic 256, 3) := by decide +kernel
theorem dL_hares_253 : decode cL_hares 253 = .ok (.bipush (-13), 2) := by decide +kernel
theorem dL_hares_255 : decode cL_hares 255 = .ok (.if_icmp .ne 57, 3) := by decide +kernel
theorem dL_hares_258 : decode cL_hares 258 = .ok (.aload_n 0, 1) := by decide +kernel
theorem dL_hares_259 : decode cL_hares 259 = .ok (.iload_n 1, 1) := by decide +kernel
theorem dL_hares_260 : decode cL_hares 260 = .ok (.invokestatic 261, 3) := by decide +kernel
theorem dL_hares_263 : decode cL_hares 263 = .ok (.bipush (-11), 2) := by decide +kernel
theorem dL_hares_265 : decode cL_hares 265 = .ok (.if_icmp .ne 47, 3) := by decide +kernel
theorem dL_hares_268 : decode cL_hares 268 = .ok (.aload_n 0, 1) := by decide +kernel
theorem dL_hares_269 : decode cL_hares 269 = .ok (.iload_n 1, 1) := by decide +kernel
theorem dL_hares_270 : decode cL_hares 270 = .ok (.invokestatic 271, 3) := by decide +kernel
theorem dL_hares_273 : decode cL_hares 273 = .ok (.bipush (-11), 2) := by decide +kernel
theorem dL_hares_275 : decode cL_hares 275 = .ok (.if_icmp .ne 37, 3) := by decide +kernel
theorem dL_hares_278 : decode cL_hares 278 = .ok (.aload_n 0, 1) := by decide +kernel
theorem dL_hares_279 : decode cL_hares 279 = .ok (.iconst (-1), 1) := by decide +kernel
theorem dL_hares_280 : decode cL_hares 280 = .ok (.invokestatic 263, 3) := by decide +kernel
theorem dL_hares_283 : decode cL_hares 283 = .ok (.bipush (-11), 2) := by decide +kernel
theorem dL_hares_285 : decode cL_hares 285 = .ok (.if_icmp .ne 27, 3) := by decide +kernel
theorem dL_hares_288 : decode cL_hares 288 = .ok (.aload_n 0, 1) := by decide +kernel
theorem dL_hares_289 : decode cL_hares 289 = .ok (.iload_n 1, 1) := by decide +kernel
theorem dL_hares_290 : decode cL_hares 290 = .ok (.invokestatic 259, 3) := by decide +kernel
theorem dL_hares_293 : decode cL_hares 293 = .ok (.bipush (-11), 2) := by decide +kernel
theorem dL_hares_295 : decode cL_hares 295 = .ok (.if_icmp .ne 17, 3) := by decide +kernel
theorem dL_hares_298 : decode cL_hares 298 = .ok (.aload_n 0, 1) := by decide +kernel
theorem dL_hares_299 : decode cL_hares 299 = .ok (.iload_n 1, 1) := by decide +kernel
theorem dL_hares_300 : decode cL_hares 300 = .ok (.invokestatic 265, 3) := by decide +kernel
theorem dL_hares_303 : decode cL_hares 303 = .ok (.bipush (-11), 2) := by decide +kernel
theorem dL_hares_305 : decode cL_hares 305 = .ok (.if_icmp .ne 7, 3) := by decide +kernel
theorem dL_hares_308 : decode cL_hares 308 = .ok (.iconst 1, 1) := by decide +kernel
theorem dL_hares_309 : decode cL_hares 309 = .ok (.goto 4, 3) := by decide +kernel
theorem dL_hares_312 : decode cL_hares 312 = .ok (.iconst 0, 1) := by decide +kernel
theorem dL_hares_313 : decode cL_hares 313 = .ok (.ireturn, 1) := by decide +kernel
theorem dL_codes_0 : decode cL_codes 0 = .ok (.iconst 0, 1) := by decide +kernel
theorem dL_codes_1 : decode cL_codes 1 = .ok (.istore_n 1, 1) := by decide +kernel
theorem dL_codes_2 : decode cL_codes 2 = .ok (.iload_n 1, 1) := by decide +kernel
theorem dL_codes_3 : decode cL_codes 3 = .ok (.bipush 16, 2) := by decide +kernel
theorem dL_codes_5 : decode cL_codes 5 = .ok (.if_icmp .ge 188, 3) := by decide +kernel
theorem dL_codes_8 : decode cL_codes 8 = .ok (.iconst 0, 1) := by decide +kernel
theorem dL_codes_9 : decode cL_codes 9 = .ok (.istore_n 2, 1) := by decide +kernel
theorem dL_codes_10 : decode cL_codes 10 = .ok (.iconst 0, 1) := by decide +kernel
theorem dL_codes_11 : decode cL_codes 11 = .ok (.istore_n 3, 1) := by decide +kernel
theorem dL_codes_12 : decode cL_codes 12 = .ok (.ldc_w 335, 3) := by decide +kernel
theorem dL_codes_15 : decode cL_codes 15 = .ok (.astore 4, 2) := by decide +kernel
theorem dL_codes_17 : decode cL_codes 17 = .ok (.iconst 0, 1) := by decide +kernel
theorem dL_codes_18 : decode cL_codes 18 = .ok (.istore 5, 2) := by decide +kernel
theorem dL_codes_20 : decode cL_codes 20 = .ok (.iload 5, 2) := by decide +kernel
theorem dL_codes_22 : decode cL_codes 22 = .ok (.iconst 5, 1) := by decide +kernel
theorem dL_codes_23 : decode cL_codes 23 = .ok (.if_icmp .ge 120, 3) := by decide +kernel
theorem dL_codes_26 : decode cL_codes 26 = .ok (.aload_n 0, 1) := by decide +kernel
theorem dL_codes_27 : decode cL_codes 27 = .ok (.iload_n 1, 1) := by decide +kernel
theorem dL_codes_28 : decode cL_codes 28 = .ok (.iload 5, 2) := by decide +kernel
theorem dL_codes_30 : decode cL_codes 30 = .ok (.invokestatic 337, 3) := by decide +kernel
theorem dL_codes_33 : decode cL_codes 33 = .ok (.istore 6, 2) := by decide +kernel
theorem dL_codes_35 : decode cL_codes 35 = .ok (.iload 5, 2) := by decide +kernel
theorem dL_codes_37 : decode cL_codes 37 = .ok (.iconst 4, 1) := by decide +kernel
theorem dL_codes_38 : decode cL_codes 38 = .ok (.if_icmp .ge 21, 3) := by decide +kernel
theorem dL_codes_41 : decode cL_codes 41 = .ok (.iload_n 1, 1) := by decide +kernel
theorem dL_codes_42 : decode cL_codes 42 = .ok (.bipush 8, 2) := by decide +kernel
theorem dL_codes_44 : decode cL_codes 44 = .ok (.iload 5, 2) := by decide +kernel
theorem dL_codes_46 : decode cL_codes 46 = .ok (.ishr, 1) := by decide +kernel
theorem dL_codes_47 : decode cL_codes 47 = .ok (.iand, 1) := by decide +kernel
theorem dL_codes_48 : decode cL_codes 48 = .ok (.ifCond .eq 7, 3) := by decide +kernel
theorem dL_codes_51 : decode cL_codes 51 = .ok (.iconst 1, 1) := by decide +kernel
theorem dL_codes_52 : decode cL_codes 52 = .ok (.goto 19, 3) := by decide +kernel
theorem dL_codes_55 : decode cL_codes 55 = .ok (.iconst 0, 1) := by decide +kernel
theorem dL_codes_56 : decode cL_codes 56 = .ok (.goto 15, 3) := by decide +kernel
theorem dL_codes_59 : decode cL_codes 59 = .ok (.iload_n 3, 1) := by decide +kernel
theorem dL_codes_60 : decode cL_codes 60 = .ok (.iconst 2, 1) := by decide +kernel
theorem dL_codes_61 : decode cL_codes 61 = .ok (.irem, 1) := by decide +kernel
theorem dL_codes_62 : decode cL_codes 62 = .ok (.iconst 1, 1) := by decide +kernel
theorem dL_codes_63 : decode cL_codes 63 = .ok (.if_icmp .ne 7, 3) := by decide +kernel
theorem dL_codes_66 : decode cL_codes 66 = .ok (.iconst 1, 1) := by decide +kernel
theorem dL_codes_67 : decode cL_codes 67 = .ok (.goto 4, 3) := by decide +kernel
theorem dL_codes_70 : decode cL_codes 70 = .ok (.iconst 0, 1) := by decide +kernel
theorem dL_codes_71 : decode cL_codes 71 = .ok (.istore 7, 2) := by decide +kernel
theorem dL_codes_73 : decode cL_codes 73 = .ok (.iload_n 3, 1) := by decide +kernel
theorem dL_codes_74 : decode cL_codes 74 = .ok (.iload 6, 2) := by decide +kernel
theorem dL_codes_76 : decode cL_codes 76 = .ok (.iadd, 1) := by decide +kernel
theorem dL_codes_77 : decode cL_codes 77 = .ok (.istore_n 3, 1) := by decide +kernel
theorem dL_codes_78 : decode cL_codes 78 = .ok (.iconst 2, 1) := by decide +kernel
theorem dL_codes_79 : decode cL_codes 79 = .ok (.iload_n 2, 1) := by decide +kernel
theorem dL_codes_80 : decode cL_codes 80 = .ok (.imul, 1) := by decide +kernel
theorem dL_codes_81 : decode cL_codes 81 = .ok (.iload 6, 2) := by decide +kernel
theorem dL_codes_83 : decode cL_codes 83 = .ok (.iadd, 1) := by decide +kernel
theorem dL_codes_84 : decode cL_codes 84 = .ok (.istore_n 2, 1) := by decide +kernel
theorem dL_codes_85 : decode cL_codes 85 = .ok (.new 283, 3) := by decide +kernel
theorem dL_codes_88 : decode cL_codes 88 = .ok (.dup, 1) := by decide +kernel
theorem dL_codes_89 : decode cL_codes 89 = .ok (.invokespecial 285, 3) := by decide +kernel
theorem dL_codes_92 : decode cL_codes 92 = .ok (.aload 4, 2) := by decide +kernel
theorem dL_codes_94 : decode cL_codes 94 = .ok (.invokevirtual 292, 3) := by decide +kernel
theorem dL_codes_97 : decode cL_codes 97 = .ok (.iload 6, 2) := by decide +kernel
theorem dL_codes_99 : decode cL_codes 99 = .ok (.iconst 1, 1) := by decide +kernel
theorem dL_codes_100 : decode cL_codes 100 = .ok (.if_icmp .ne 9, 3) := by decide +kernel
theorem dL_codes_103 : decode cL_codes 103 = .ok (.ldc_w 339, 3) := by decide +kernel
theorem dL_codes_106 : decode cL_codes 106 = .ok (.goto 6, 3) := by decide +kernel
theorem dL_codes_109 : decode cL_codes 109 = .ok (.ldc_w 341, 3) := by decide +kernel
theorem dL_codes_112 : decode cL_codes 112 = .ok (.invokevirtual 292, 3) := by decide +kernel
theorem dL_codes_115 : decode cL_codes 115 = .ok (.invokevirtual 308, 3) := by decide +kernel
theorem dL_codes_118 : decode cL_codes 118 = .ok (.astore 4, 2) := by decide +kernel
theorem dL_codes_120 : decode cL_codes 120 = .ok (.iload 6, 2) := by decide +kernel
theorem dL_codes_122 : decode cL_codes 122 = .ok (.iload 7, 2) := by decide +kernel
theorem dL_codes_124 : decode cL_codes 124 = .ok (.ifCond .eq 7, 3) := by decide +kernel
theorem dL_codes_127 : decode cL_codes 127 = .ok (.iconst 1, 1) := by decide +kernel
theorem dL_codes_128 : decode cL_codes 128 = .ok (.goto 4, 3) := by decide +kernel
theorem dL_codes_131 : decode cL_codes 131 = .ok (.iconst 0, 1) := by decide +kernel
theorem dL_codes_132 : decode cL_codes 132 = .ok (.if_icmp .eq 5, 3) := by decide +kernel
theorem dL_codes_135 : decode cL_codes 135 = .ok (.iconst 0, 1) := by decide +kernel
theorem dL_codes_136 : decode cL_codes 136 = .ok (.ireturn, 1) := by decide +kernel
theorem dL_codes_137 : decode cL_codes 137 = .ok (.iinc 5 1, 3) := by decide +kernel
theorem dL_codes_140 : decode cL_codes 140 = .ok (.goto (-120), 3) := by decide +kernel
theorem dL_codes_143 : decode cL_codes 143 = .ok (.aload_n 0, 1) := by decide +kernel
theorem dL_codes_144 : decode cL_codes 144 = .ok (.iload_n 2, 1) := by decide +kernel
theorem dL_codes_145 : decode cL_codes 145 = .ok (.invokestatic 343, 3) := by decide +kernel
theorem dL_codes_148 : decode cL_codes 148 = .ok (.iload_n 1, 1) := by decide +kernel
theorem dL_codes_149 : decode cL_codes 149 = .ok (.if_icmp .ne 36, 3) := by decide +kernel
theorem dL_codes_152 : decode cL_codes 152 = .ok (.aload_n 0, 1) := by decide +kernel
theorem dL_codes_153 : decode cL_codes 153 = .ok (.iload_n 2, 1) := by decide +kernel
theorem dL_codes_154 : decode cL_codes 154 = .ok (.iconst 1, 1) := by decide +kernel
theorem dL_codes_155 : decode cL_codes 155 = .ok (.ixor, 1) := by decide +kernel
theorem dL_codes_156 : decode cL_codes 156 = .ok (.invokestatic 343, 3) := by decide +kernel
theorem dL_codes_159 : decode cL_codes 159 = .ok (.bipush (-13), 2) := by decide +kernel
theorem dL_codes_161 : decode cL_codes 161 = .ok (.if_icmp .ne 24, 3) := by decide +kernel
theorem dL_codes_164 : decode cL_codes 164 = .ok (.iload_n 3, 1) := by decide +kernel
theorem dL_codes_165 : decode cL_codes 165 = .ok (.iconst 2, 1) := by decide +kernel
theorem dL_codes_166 : decode cL_codes 166 = .ok (.irem, 1) := by decide +kernel
theorem dL_codes_167 : decode cL_codes 167 = .ok (.iconst 1, 1) := by decide +kernel
theorem dL_codes_168 : decode cL_codes 168 = .ok (.if_icmp .eq 17, 3) := by decide +kernel
theorem dL_codes_171 : decode cL_codes 171 = .ok (.aload_n 0, 1) := by decide +kernel
theorem dL_codes_172 : decode cL_codes 172 = .ok (.aload_n 0, 1) := by decide +kernel
theorem dL_codes_173 : decode cL_codes 173 = .ok (.iload_n 1, 1) := by decide +kernel
theorem dL_codes_174 : decode cL_codes 174 = .ok (.invokestatic 345, 3) := by decide +kernel
theorem dL_codes_177 : decode cL_codes 177 = .ok (.aload 4, 2) := by decide +kernel
theorem dL_codes_179 : decode cL_codes 179 = .ok (.invokestatic 312, 3) := by decide +kernel
theorem dL_codes_182 : decode cL_codes 182 = .ok (.ifCond .ne 5, 3) := by decide +kernel
theorem dL_codes_185 : decode cL_codes 185 = .ok (.iconst 0, 1) := by decide +kernel
theorem dL_codes_186 : decode cL_codes 186 = .ok (.ireturn, 1) := by decide +kernel
theorem dL_codes_187 : decode cL_codes 187 = .ok (.iinc 1 1, 3) := by decide +kernel
theorem dL_codes_190 : decode cL_codes 190 = .ok (.goto (-188), 3) := by decide +kernel
theorem dL_codes_193 : decode cL_codes 193 = .ok (.aload_n 0, 1) := by decide +kernel
theorem dL_codes_194 : decode cL_codes 194 = .ok (.bipush 16, 2) := by decide +kernel
theorem dL_codes_196 : decode cL_codes 196 = .ok (.bipush 9, 2) := by decide +kernel
theorem dL_codes_198 : decode cL_codes 198 = .ok (.invokestatic 337, 3) := by decide +kernel
theorem dL_codes_201 : decode cL_codes 201 = .ok (.bipush (-12), 2) := by decide +kernel
theorem dL_codes_203 : decode cL_codes 203 = .ok (.if_icmp .ne 50, 3) := by decide +kernel
theorem dL_codes_206 : decode cL_codes 206 = .ok (.aload_n 0, 1) := by decide +kernel
theorem dL_codes_207 : decode cL_codes 207 = .ok (.iconst 0, 1) := by decide +kernel
theorem dL_codes_208 : decode cL_codes 208 = .ok (.iconst 5, 1) := by decide +kernel
theorem dL_codes_209 : decode cL_codes 209 = .ok (.invokestatic 337, 3) := by decide +kernel
theorem dL_codes_212 : decode cL_codes 212 = .ok (.bipush (-11), 2) := by decide +kernel
theorem dL_codes_214 : decode cL_codes 214 = .ok (.if_icmp .ne 39, 3) := by decide +kernel
theorem dL_codes_217 : decode cL_codes 217 = .ok (.aload_n 0, 1) := by decide +kernel
theorem dL_codes_218 : decode cL_codes 218 = .ok (.bipush 32, 2) := by decide +kernel
theorem dL_codes_220 : decode cL_codes 220 = .ok (.invokestatic 343, 3) := by decide +kernel
theorem dL_codes_223 : decode cL_codes 223 = .ok (.bipush (-12), 2) := by decide +kernel
theorem dL_codes_225 : decode cL_codes 225 = .ok (.if_icmp .ne 28, 3) := by decide +kernel
theorem dL_codes_228 : decode cL_codes 228 = .ok (.aload_n 0, 1) := by decide +kernel
theorem dL_codes_229 : decode cL_codes 229 = .ok (.iconst (-1), 1) := by decide +kernel
theorem dL_codes_230 : decode cL_codes 230 = .ok (.invokestatic 343, 3) := by decide +kernel
theorem dL_codes_233 : decode cL_codes 233 = .ok (.bipush (-12), 2) := by decide +kernel
theorem dL_codes_235 : decode cL_codes 235 = .ok (.if_icmp .ne 18, 3) := by decide +kernel
theorem dL_codes_238 : decode cL_codes 238 = .ok (.aload_n 0, 1) := by decide +kernel
theorem dL_codes_239 : decode cL_codes 239 = .ok (.bipush 16, 2) := by decide +kernel
theorem dL_codes_241 : decode cL_codes 241 = .ok (.invokestatic 345, 3) := by decide +kernel
theorem dL_codes_244 : decode cL_codes 244 = .ok (.bipush (-12), 2) := by decide +kernel
theorem dL_codes_246 : decode cL_codes 246 = .ok (.if_icmp .ne 7, 3) := by decide +kernel
theorem dL_codes_249 : decode cL_codes 249 = .ok (.iconst 1, 1) := by decide +kernel
theorem dL_codes_250 : decode cL_codes 250 = .ok (.goto 4, 3) := by decide +kernel
theorem dL_codes_253 : decode cL_codes 253 = .ok (.iconst 0, 1) := by decide +kernel
theorem dL_codes_254 : decode cL_codes 254 = .ok (.ireturn, 1) := by decide +kernel
