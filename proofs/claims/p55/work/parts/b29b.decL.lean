theorem dL_ways_0 : decode cL_ways 0 = .ok (.aload_n 0, 1) := by decide +kernel
theorem dL_ways_1 : decode cL_ways 1 = .ok (.invokevirtual 203, 3) := by decide +kernel
theorem dL_ways_4 : decode cL_ways 4 = .ok (.istore_n 1, 1) := by decide +kernel
theorem dL_ways_5 : decode cL_ways 5 = .ok (.iconst 0, 1) := by decide +kernel
theorem dL_ways_6 : decode cL_ways 6 = .ok (.istore_n 2, 1) := by decide +kernel
theorem dL_ways_7 : decode cL_ways 7 = .ok (.iconst 0, 1) := by decide +kernel
theorem dL_ways_8 : decode cL_ways 8 = .ok (.istore_n 3, 1) := by decide +kernel
theorem dL_ways_9 : decode cL_ways 9 = .ok (.iload_n 3, 1) := by decide +kernel
theorem dL_ways_10 : decode cL_ways 10 = .ok (.iload_n 1, 1) := by decide +kernel
theorem dL_ways_11 : decode cL_ways 11 = .ok (.if_icmp .ge 242, 3) := by decide +kernel
theorem dL_ways_14 : decode cL_ways 14 = .ok (.fconst 0, 1) := by decide +kernel
theorem dL_ways_15 : decode cL_ways 15 = .ok (.fstore 4, 2) := by decide +kernel
theorem dL_ways_17 : decode cL_ways 17 = .ok (.iconst 0, 1) := by decide +kernel
theorem dL_ways_18 : decode cL_ways 18 = .ok (.istore 5, 2) := by decide +kernel
theorem dL_ways_20 : decode cL_ways 20 = .ok (.iload 5, 2) := by decide +kernel
theorem dL_ways_22 : decode cL_ways 22 = .ok (.iload_n 1, 1) := by decide +kernel
theorem dL_ways_23 : decode cL_ways 23 = .ok (.if_icmp .ge 208, 3) := by decide +kernel
theorem dL_ways_26 : decode cL_ways 26 = .ok (.aload_n 0, 1) := by decide +kernel
theorem dL_ways_27 : decode cL_ways 27 = .ok (.iload_n 3, 1) := by decide +kernel
theorem dL_ways_28 : decode cL_ways 28 = .ok (.iload 5, 2) := by decide +kernel
theorem dL_ways_30 : decode cL_ways 30 = .ok (.invokestatic 206, 3) := by decide +kernel
theorem dL_ways_33 : decode cL_ways 33 = .ok (.istore 6, 2) := by decide +kernel
theorem dL_ways_35 : decode cL_ways 35 = .ok (.iload_n 1, 1) := by decide +kernel
theorem dL_ways_36 : decode cL_ways 36 = .ok (.iconst 5, 1) := by decide +kernel
theorem dL_ways_37 : decode cL_ways 37 = .ok (.if_icmp .le 13, 3) := by decide +kernel
theorem dL_ways_40 : decode cL_ways 40 = .ok (.aload_n 0, 1) := by decide +kernel
theorem dL_ways_41 : decode cL_ways 41 = .ok (.iload_n 3, 1) := by decide +kernel
theorem dL_ways_42 : decode cL_ways 42 = .ok (.iload 5, 2) := by decide +kernel
theorem dL_ways_44 : decode cL_ways 44 = .ok (.invokestatic 217, 3) := by decide +kernel
theorem dL_ways_47 : decode cL_ways 47 = .ok (.goto 13, 3) := by decide +kernel
theorem dL_ways_50 : decode cL_ways 50 = .ok (.aload_n 0, 1) := by decide +kernel
theorem dL_ways_51 : decode cL_ways 51 = .ok (.iload_n 3, 1) := by decide +kernel
theorem dL_ways_52 : decode cL_ways 52 = .ok (.iload 5, 2) := by decide +kernel
theorem dL_ways_54 : decode cL_ways 54 = .ok (.iload_n 1, 1) := by decide +kernel
theorem dL_ways_55 : decode cL_ways 55 = .ok (.iconst 1, 1) := by decide +kernel
theorem dL_ways_56 : decode cL_ways 56 = .ok (.isub, 1) := by decide +kernel
theorem dL_ways_57 : decode cL_ways 57 = .ok (.invokestatic 209, 3) := by decide +kernel
theorem dL_ways_60 : decode cL_ways 60 = .ok (.istore 7, 2) := by decide +kernel
theorem dL_ways_62 : decode cL_ways 62 = .ok (.iload 7, 2) := by decide +kernel
theorem dL_ways_64 : decode cL_ways 64 = .ok (.sipush 999, 3) := by decide +kernel
theorem dL_ways_67 : decode cL_ways 67 = .ok (.if_icmp .ne 8, 3) := by decide +kernel
theorem dL_ways_70 : decode cL_ways 70 = .ok (.bipush (-13), 2) := by decide +kernel
theorem dL_ways_72 : decode cL_ways 72 = .ok (.goto 5, 3) := by decide +kernel
theorem dL_ways_75 : decode cL_ways 75 = .ok (.iload 7, 2) := by decide +kernel
theorem dL_ways_77 : decode cL_ways 77 = .ok (.istore 7, 2) := by decide +kernel
theorem dL_ways_79 : decode cL_ways 79 = .ok (.iload_n 3, 1) := by decide +kernel
theorem dL_ways_80 : decode cL_ways 80 = .ok (.iload 5, 2) := by decide +kernel
theorem dL_ways_82 : decode cL_ways 82 = .ok (.if_icmp .ne 7, 3) := by decide +kernel
theorem dL_ways_85 : decode cL_ways 85 = .ok (.fconst 1, 1) := by decide +kernel
theorem dL_ways_86 : decode cL_ways 86 = .ok (.goto 19, 3) := by decide +kernel
theorem dL_ways_89 : decode cL_ways 89 = .ok (.iload 7, 2) := by decide +kernel
theorem dL_ways_91 : decode cL_ways 91 = .ok (.ifCond .ge 7, 3) := by decide +kernel
theorem dL_ways_94 : decode cL_ways 94 = .ok (.fconst 0, 1) := by decide +kernel
theorem dL_ways_95 : decode cL_ways 95 = .ok (.goto 10, 3) := by decide +kernel
theorem dL_ways_98 : decode cL_ways 98 = .ok (.fconst 1, 1) := by decide +kernel
theorem dL_ways_99 : decode cL_ways 99 = .ok (.fconst 1, 1) := by decide +kernel
theorem dL_ways_100 : decode cL_ways 100 = .ok (.iload 7, 2) := by decide +kernel
theorem dL_ways_102 : decode cL_ways 102 = .ok (.i2f, 1) := by decide +kernel
theorem dL_ways_103 : decode cL_ways 103 = .ok (.fadd, 1) := by decide +kernel
theorem dL_ways_104 : decode cL_ways 104 = .ok (.fdiv, 1) := by decide +kernel
theorem dL_ways_105 : decode cL_ways 105 = .ok (.fstore 8, 2) := by decide +kernel
theorem dL_ways_107 : decode cL_ways 107 = .ok (.iload_n 2, 1) := by decide +kernel
theorem dL_ways_108 : decode cL_ways 108 = .ok (.iload 6, 2) := by decide +kernel
theorem dL_ways_110 : decode cL_ways 110 = .ok (.ifCond .le 7, 3) := by decide +kernel
theorem dL_ways_113 : decode cL_ways 113 = .ok (.iconst 1, 1) := by decide +kernel
theorem dL_ways_114 : decode cL_ways 114 = .ok (.goto 4, 3) := by decide +kernel
theorem dL_ways_117 : decode cL_ways 117 = .ok (.iconst 0, 1) := by decide +kernel
theorem dL_ways_118 : decode cL_ways 118 = .ok (.iadd, 1) := by decide +kernel
theorem dL_ways_119 : decode cL_ways 119 = .ok (.istore_n 2, 1) := by decide +kernel
theorem dL_ways_120 : decode cL_ways 120 = .ok (.fload 4, 2) := by decide +kernel
theorem dL_ways_122 : decode cL_ways 122 = .ok (.aload_n 0, 1) := by decide +kernel
theorem dL_ways_123 : decode cL_ways 123 = .ok (.iload 5, 2) := by decide +kernel
theorem dL_ways_125 : decode cL_ways 125 = .ok (.iload_n 3, 1) := by decide +kernel
theorem dL_ways_126 : decode cL_ways 126 = .ok (.invokevirtual 220, 3) := by decide +kernel
theorem dL_ways_129 : decode cL_ways 129 = .ok (.fadd, 1) := by decide +kernel
theorem dL_ways_130 : decode cL_ways 130 = .ok (.fstore 4, 2) := by decide +kernel
theorem dL_ways_132 : decode cL_ways 132 = .ok (.iload 6, 2) := by decide +kernel
theorem dL_ways_134 : decode cL_ways 134 = .ok (.aload_n 0, 1) := by decide +kernel
theorem dL_ways_135 : decode cL_ways 135 = .ok (.iload 5, 2) := by decide +kernel
theorem dL_ways_137 : decode cL_ways 137 = .ok (.iload_n 3, 1) := by decide +kernel
theorem dL_ways_138 : decode cL_ways 138 = .ok (.invokestatic 206, 3) := by decide +kernel
theorem dL_ways_141 : decode cL_ways 141 = .ok (.if_icmp .ne 40, 3) := by decide +kernel
theorem dL_ways_144 : decode cL_ways 144 = .ok (.iload_n 3, 1) := by decide +kernel
theorem dL_ways_145 : decode cL_ways 145 = .ok (.iload 5, 2) := by decide +kernel
theorem dL_ways_147 : decode cL_ways 147 = .ok (.if_icmp .ne 10, 3) := by decide +kernel
theorem dL_ways_150 : decode cL_ways 150 = .ok (.iload 6, 2) := by decide +kernel
theorem dL_ways_152 : decode cL_ways 152 = .ok (.bipush (-13), 2) := by decide +kernel
theorem dL_ways_154 : decode cL_ways 154 = .ok (.if_icmp .ne 27, 3) := by decide +kernel
theorem dL_ways_157 : decode cL_ways 157 = .ok (.aload_n 0, 1) := by decide +kernel
theorem dL_ways_158 : decode cL_ways 158 = .ok (.iload_n 3, 1) := by decide +kernel
theorem dL_ways_159 : decode cL_ways 159 = .ok (.iload 5, 2) := by decide +kernel
theorem dL_ways_161 : decode cL_ways 161 = .ok (.invokestatic 217, 3) := by decide +kernel
theorem dL_ways_164 : decode cL_ways 164 = .ok (.iload 7, 2) := by decide +kernel
theorem dL_ways_166 : decode cL_ways 166 = .ok (.if_icmp .ne 15, 3) := by decide +kernel
theorem dL_ways_169 : decode cL_ways 169 = .ok (.aload_n 0, 1) := by decide +kernel
theorem dL_ways_170 : decode cL_ways 170 = .ok (.iload_n 3, 1) := by decide +kernel
theorem dL_ways_171 : decode cL_ways 171 = .ok (.iload 5, 2) := by decide +kernel
theorem dL_ways_173 : decode cL_ways 173 = .ok (.invokestatic 224, 3) := by decide +kernel
theorem dL_ways_176 : decode cL_ways 176 = .ok (.iload 7, 2) := by decide +kernel
theorem dL_ways_178 : decode cL_ways 178 = .ok (.if_icmp .eq 5, 3) := by decide +kernel
theorem dL_ways_181 : decode cL_ways 181 = .ok (.iconst 0, 1) := by decide +kernel
theorem dL_ways_182 : decode cL_ways 182 = .ok (.ireturn, 1) := by decide +kernel
theorem dL_ways_183 : decode cL_ways 183 = .ok (.aload_n 0, 1) := by decide +kernel
theorem dL_ways_184 : decode cL_ways 184 = .ok (.iload_n 3, 1) := by decide +kernel
theorem dL_ways_185 : decode cL_ways 185 = .ok (.iload 5, 2) := by decide +kernel
theorem dL_ways_187 : decode cL_ways 187 = .ok (.invokevirtual 220, 3) := by decide +kernel
theorem dL_ways_190 : decode cL_ways 190 = .ok (.fload 8, 2) := by decide +kernel
theorem dL_ways_192 : decode cL_ways 192 = .ok (.fcmp .l, 1) := by decide +kernel
theorem dL_ways_193 : decode cL_ways 193 = .ok (.ifCond .ne 30, 3) := by decide +kernel
theorem dL_ways_196 : decode cL_ways 196 = .ok (.aload_n 0, 1) := by decide +kernel
theorem dL_ways_197 : decode cL_ways 197 = .ok (.iload_n 3, 1) := by decide +kernel
theorem dL_ways_198 : decode cL_ways 198 = .ok (.iload 5, 2) := by decide +kernel
theorem dL_ways_200 : decode cL_ways 200 = .ok (.invokestatic 227, 3) := by decide +kernel
theorem dL_ways_203 : decode cL_ways 203 = .ok (.fload 8, 2) := by decide +kernel
theorem dL_ways_205 : decode cL_ways 205 = .ok (.invokestatic 230, 3) := by decide +kernel
theorem dL_ways_208 : decode cL_ways 208 = .ok (.if_icmp .ne 15, 3) := by decide +kernel
theorem dL_ways_211 : decode cL_ways 211 = .ok (.iload 6, 2) := by decide +kernel
theorem dL_ways_213 : decode cL_ways 213 = .ok (.ifCond .le 12, 3) := by decide +kernel
theorem dL_ways_216 : decode cL_ways 216 = .ok (.iload 7, 2) := by decide +kernel
theorem dL_ways_218 : decode cL_ways 218 = .ok (.iload 6, 2) := by decide +kernel
theorem dL_ways_220 : decode cL_ways 220 = .ok (.if_icmp .le 5, 3) := by decide +kernel
theorem dL_ways_223 : decode cL_ways 223 = .ok (.iconst 0, 1) := by decide +kernel
theorem dL_ways_224 : decode cL_ways 224 = .ok (.ireturn, 1) := by decide +kernel
theorem dL_ways_225 : decode cL_ways 225 = .ok (.iinc 5 1, 3) := by decide +kernel
theorem dL_ways_228 : decode cL_ways 228 = .ok (.goto (-208), 3) := by decide +kernel
theorem dL_ways_231 : decode cL_ways 231 = .ok (.aload_n 0, 1) := by decide +kernel
theorem dL_ways_232 : decode cL_ways 232 = .ok (.iload_n 3, 1) := by decide +kernel
theorem dL_ways_233 : decode cL_ways 233 = .ok (.invokevirtual 236, 3) := by decide +kernel
theorem dL_ways_236 : decode cL_ways 236 = .ok (.fload 4, 2) := by decide +kernel
theorem dL_ways_238 : decode cL_ways 238 = .ok (.iload_n 1, 1) := by decide +kernel
theorem dL_ways_239 : decode cL_ways 239 = .ok (.i2f, 1) := by decide +kernel
theorem dL_ways_240 : decode cL_ways 240 = .ok (.fdiv, 1) := by decide +kernel
theorem dL_ways_241 : decode cL_ways 241 = .ok (.fcmp .l, 1) := by decide +kernel
theorem dL_ways_242 : decode cL_ways 242 = .ok (.ifCond .eq 5, 3) := by decide +kernel
theorem dL_ways_245 : decode cL_ways 245 = .ok (.iconst 0, 1) := by decide +kernel
theorem dL_ways_246 : decode cL_ways 246 = .ok (.ireturn, 1) := by decide +kernel
theorem dL_ways_247 : decode cL_ways 247 = .ok (.iinc 3 1, 3) := by decide +kernel
theorem dL_ways_250 : decode cL_ways 250 = .ok (.goto (-241), 3) := by decide +kernel
theorem dL_ways_253 : decode cL_ways 253 = .ok (.iload_n 2, 1) := by decide +kernel
theorem dL_ways_254 : decode cL_ways 254 = .ok (.iconst 2, 1) := by decide +kernel
theorem dL_ways_255 : decode cL_ways 255 = .ok (.aload_n 0, 1) := by decide +kernel
theorem dL_ways_256 : decode cL_ways 256 = .ok (.invokevirtual 240, 3) := by decide +kernel
theorem dL_ways_259 : decode cL_ways 259 = .ok (.imul, 1) := by decide +kernel
theorem dL_ways_260 : decode cL_ways 260 = .ok (.if_icmp .ne 51, 3) := by decide +kernel
theorem dL_ways_263 : decode cL_ways 263 = .ok (.aload_n 0, 1) := by decide +kernel
theorem dL_ways_264 : decode cL_ways 264 = .ok (.iload_n 1, 1) := by decide +kernel
theorem dL_ways_265 : decode cL_ways 265 = .ok (.iconst 0, 1) := by decide +kernel
theorem dL_ways_266 : decode cL_ways 266 = .ok (.invokestatic 206, 3) := by decide +kernel
theorem dL_ways_269 : decode cL_ways 269 = .ok (.bipush (-11), 2) := by decide +kernel
theorem dL_ways_271 : decode cL_ways 271 = .ok (.if_icmp .ne 40, 3) := by decide +kernel
theorem dL_ways_274 : decode cL_ways 274 = .ok (.aload_n 0, 1) := by decide +kernel
theorem dL_ways_275 : decode cL_ways 275 = .ok (.iconst 0, 1) := by decide +kernel
theorem dL_ways_276 : decode cL_ways 276 = .ok (.iload_n 1, 1) := by decide +kernel
theorem dL_ways_277 : decode cL_ways 277 = .ok (.invokestatic 217, 3) := by decide +kernel
theorem dL_ways_280 : decode cL_ways 280 = .ok (.bipush (-11), 2) := by decide +kernel
theorem dL_ways_282 : decode cL_ways 282 = .ok (.if_icmp .ne 29, 3) := by decide +kernel
theorem dL_ways_285 : decode cL_ways 285 = .ok (.aload_n 0, 1) := by decide +kernel
theorem dL_ways_286 : decode cL_ways 286 = .ok (.iconst (-1), 1) := by decide +kernel
theorem dL_ways_287 : decode cL_ways 287 = .ok (.iconst 0, 1) := by decide +kernel
theorem dL_ways_288 : decode cL_ways 288 = .ok (.invokestatic 224, 3) := by decide +kernel
theorem dL_ways_291 : decode cL_ways 291 = .ok (.bipush (-11), 2) := by decide +kernel
theorem dL_ways_293 : decode cL_ways 293 = .ok (.if_icmp .ne 18, 3) := by decide +kernel
theorem dL_ways_296 : decode cL_ways 296 = .ok (.aload_n 0, 1) := by decide +kernel
theorem dL_ways_297 : decode cL_ways 297 = .ok (.iload_n 1, 1) := by decide +kernel
theorem dL_ways_298 : decode cL_ways 298 = .ok (.iconst 0, 1) := by decide +kernel
theorem dL_ways_299 : decode cL_ways 299 = .ok (.invokestatic 227, 3) := by decide +kernel
theorem dL_ways_302 : decode cL_ways 302 = .ok (.bipush (-11), 2) := by decide +kernel
theorem dL_ways_304 : decode cL_ways 304 = .ok (.if_icmp .ne 7, 3) := by decide +kernel
theorem dL_ways_307 : decode cL_ways 307 = .ok (.iconst 1, 1) := by decide +kernel
theorem dL_ways_308 : decode cL_ways 308 = .ok (.goto 4, 3) := by decide +kernel
theorem dL_ways_311 : decode cL_ways 311 = .ok (.iconst 0, 1) := by decide +kernel
theorem dL_ways_312 : decode cL_ways 312 = .ok (.ireturn, 1) := by decide +kernel
theorem dL_spells_0 : decode cL_spells 0 = .ok (.iload_n 1, 1) := by decide +kernel
theorem dL_spells_1 : decode cL_spells 1 = .ok (.aload_n 2, 1) := by decide +kernel
theorem dL_spells_2 : decode cL_spells 2 = .ok (.invokevirtual 140, 3) := by decide +kernel
theorem dL_spells_5 : decode cL_spells 5 = .ok (.if_icmp .ne 7, 3) := by decide +kernel
theorem dL_spells_8 : decode cL_spells 8 = .ok (.iconst 1, 1) := by decide +kernel
theorem dL_spells_9 : decode cL_spells 9 = .ok (.goto 4, 3) := by decide +kernel
theorem dL_spells_12 : decode cL_spells 12 = .ok (.iconst 0, 1) := by decide +kernel
theorem dL_spells_13 : decode cL_spells 13 = .ok (.istore_n 3, 1) := by decide +kernel
theorem dL_spells_14 : decode cL_spells 14 = .ok (.iconst 0, 1) := by decide +kernel
theorem dL_spells_15 : decode cL_spells 15 = .ok (.istore 4, 2) := by decide +kernel
theorem dL_spells_17 : decode cL_spells 17 = .ok (.iload 4, 2) := by decide +kernel
theorem dL_spells_19 : decode cL_spells 19 = .ok (.aload_n 2, 1) := by decide +kernel
theorem dL_spells_20 : decode cL_spells 20 = .ok (.invokevirtual 140, 3) := by decide +kernel
theorem dL_spells_23 : decode cL_spells 23 = .ok (.if_icmp .ge 34, 3) := by decide +kernel
theorem dL_spells_26 : decode cL_spells 26 = .ok (.iload_n 3, 1) := by decide +kernel
theorem dL_spells_27 : decode cL_spells 27 = .ok (.ifCond .eq 30, 3) := by decide +kernel
theorem dL_spells_30 : decode cL_spells 30 = .ok (.aload_n 0, 1) := by decide +kernel
theorem dL_spells_31 : decode cL_spells 31 = .ok (.iload 4, 2) := by decide +kernel
theorem dL_spells_33 : decode cL_spells 33 = .ok (.invokestatic 273, 3) := by decide +kernel
theorem dL_spells_36 : decode cL_spells 36 = .ok (.aload_n 2, 1) := by decide +kernel
theorem dL_spells_37 : decode cL_spells 37 = .ok (.iload 4, 2) := by decide +kernel
theorem dL_spells_39 : decode cL_spells 39 = .ok (.invokevirtual 145, 3) := by decide +kernel
theorem dL_spells_42 : decode cL_spells 42 = .ok (.if_icmp .ne 7, 3) := by decide +kernel
theorem dL_spells_45 : decode cL_spells 45 = .ok (.iconst 1, 1) := by decide +kernel
theorem dL_spells_46 : decode cL_spells 46 = .ok (.goto 4, 3) := by decide +kernel
theorem dL_spells_49 : decode cL_spells 49 = .ok (.iconst 0, 1) := by decide +kernel
theorem dL_spells_50 : decode cL_spells 50 = .ok (.istore_n 3, 1) := by decide +kernel
theorem dL_spells_51 : decode cL_spells 51 = .ok (.iinc 4 1, 3) := by decide +kernel
theorem dL_spells_54 : decode cL_spells 54 = .ok (.goto (-37), 3) := by decide +kernel
theorem dL_spells_57 : decode cL_spells 57 = .ok (.iload_n 3, 1) := by decide +kernel
theorem dL_spells_58 : decode cL_spells 58 = .ok (.ifCond .eq 17, 3) := by decide +kernel
theorem dL_spells_61 : decode cL_spells 61 = .ok (.aload_n 0, 1) := by decide +kernel
theorem dL_spells_62 : decode cL_spells 62 = .ok (.iload_n 1, 1) := by decide +kernel
theorem dL_spells_63 : decode cL_spells 63 = .ok (.invokestatic 273, 3) := by decide +kernel
theorem dL_spells_66 : decode cL_spells 66 = .ok (.bipush (-11), 2) := by decide +kernel
theorem dL_spells_68 : decode cL_spells 68 = .ok (.if_icmp .ne 7, 3) := by decide +kernel
theorem dL_spells_71 : decode cL_spells 71 = .ok (.iconst 1, 1) := by decide +kernel
theorem dL_spells_72 : decode cL_spells 72 = .ok (.goto 4, 3) := by decide +kernel
theorem dL_spells_75 : decode cL_spells 75 = .ok (.iconst 0, 1) := by decide +kernel
theorem dL_spells_76 : decode cL_spells 76 = .ok (.ireturn, 1) := by decide +kernel
theorem dL_numberOf_0 : decode cL_numberOf 0 = .ok (.aload_n 0, 1) := by decide +kernel
theorem dL_numberOf_1 : decode cL_numberOf 1 = .ok (.iload_n 1, 1) := by decide +kernel
theorem dL_numberOf_2 : decode cL_numberOf 2 = .ok (.invokestatic 276, 3) := by decide +kernel
theorem dL_numberOf_5 : decode cL_numberOf 5 = .ok (.istore_n 2, 1) := by decide +kernel
theorem dL_numberOf_6 : decode cL_numberOf 6 = .ok (.iconst 0, 1) := by decide +kernel
theorem dL_numberOf_7 : decode cL_numberOf 7 = .ok (.istore_n 3, 1) := by decide +kernel
theorem dL_numberOf_8 : decode cL_numberOf 8 = .ok (.iconst 0, 1) := by decide +kernel
theorem dL_numberOf_9 : decode cL_numberOf 9 = .ok (.istore 4, 2) := by decide +kernel
theorem dL_numberOf_11 : decode cL_numberOf 11 = .ok (.iconst 0, 1) := by decide +kernel
theorem dL_numberOf_12 : decode cL_numberOf 12 = .ok (.istore 5, 2) := by decide +kernel
theorem dL_numberOf_14 : decode cL_numberOf 14 = .ok (.iload 5, 2) := by decide +kernel
theorem dL_numberOf_16 : decode cL_numberOf 16 = .ok (.iload_n 2, 1) := by decide +kernel
theorem dL_numberOf_17 : decode cL_numberOf 17 = .ok (.if_icmp .ge 70, 3) := by decide +kernel
theorem dL_numberOf_20 : decode cL_numberOf 20 = .ok (.aload_n 0, 1) := by decide +kernel
theorem dL_numberOf_21 : decode cL_numberOf 21 = .ok (.iload 5, 2) := by decide +kernel
theorem dL_numberOf_23 : decode cL_numberOf 23 = .ok (.invokestatic 273, 3) := by decide +kernel
theorem dL_numberOf_26 : decode cL_numberOf 26 = .ok (.istore 6, 2) := by decide +kernel
theorem dL_numberOf_28 : decode cL_numberOf 28 = .ok (.iload 4, 2) := by decide +kernel
theorem dL_numberOf_30 : decode cL_numberOf 30 = .ok (.ifCond .eq 30, 3) := by decide +kernel
theorem dL_numberOf_33 : decode cL_numberOf 33 = .ok (.iload 6, 2) := by decide +kernel
theorem dL_numberOf_35 : decode cL_numberOf 35 = .ok (.bipush 48, 2) := by decide +kernel
theorem dL_numberOf_37 : decode cL_numberOf 37 = .ok (.if_icmp .lt 23, 3) := by decide +kernel
theorem dL_numberOf_40 : decode cL_numberOf 40 = .ok (.iload 6, 2) := by decide +kernel
theorem dL_numberOf_42 : decode cL_numberOf 42 = .ok (.bipush 57, 2) := by decide +kernel
theorem dL_numberOf_44 : decode cL_numberOf 44 = .ok (.if_icmp .gt 16, 3) := by decide +kernel
theorem dL_numberOf_47 : decode cL_numberOf 47 = .ok (.bipush 10, 2) := by decide +kernel
theorem dL_numberOf_49 : decode cL_numberOf 49 = .ok (.iload_n 3, 1) := by decide +kernel
theorem dL_numberOf_50 : decode cL_numberOf 50 = .ok (.imul, 1) := by decide +kernel
theorem dL_numberOf_51 : decode cL_numberOf 51 = .ok (.iload 6, 2) := by decide +kernel
theorem dL_numberOf_53 : decode cL_numberOf 53 = .ok (.iadd, 1) := by decide +kernel
theorem dL_numberOf_54 : decode cL_numberOf 54 = .ok (.bipush 48, 2) := by decide +kernel
theorem dL_numberOf_56 : decode cL_numberOf 56 = .ok (.isub, 1) := by decide +kernel
theorem dL_numberOf_57 : decode cL_numberOf 57 = .ok (.goto 4, 3) := by decide +kernel
theorem dL_numberOf_60 : decode cL_numberOf 60 = .ok (.iload_n 3, 1) := by decide +kernel
theorem dL_numberOf_61 : decode cL_numberOf 61 = .ok (.istore_n 3, 1) := by decide +kernel
theorem dL_numberOf_62 : decode cL_numberOf 62 = .ok (.iload 4, 2) := by decide +kernel
theorem dL_numberOf_64 : decode cL_numberOf 64 = .ok (.ifCond .ne 10, 3) := by decide +kernel
theorem dL_numberOf_67 : decode cL_numberOf 67 = .ok (.iload 6, 2) := by decide +kernel
theorem dL_numberOf_69 : decode cL_numberOf 69 = .ok (.bipush 61, 2) := by decide +kernel
theorem dL_numberOf_71 : decode cL_numberOf 71 = .ok (.if_icmp .ne 7, 3) := by decide +kernel
theorem dL_numberOf_74 : decode cL_numberOf 74 = .ok (.iconst 1, 1) := by decide +kernel
theorem dL_numberOf_75 : decode cL_numberOf 75 = .ok (.goto 4, 3) := by decide +kernel
theorem dL_numberOf_78 : decode cL_numberOf 78 = .ok (.iconst 0, 1) := by decide +kernel
theorem dL_numberOf_79 : decode cL_numberOf 79 = .ok (.istore 4, 2) := by decide +kernel
theorem dL_numberOf_81 : decode cL_numberOf 81 = .ok (.iinc 5 1, 3) := by decide +kernel
theorem dL_numberOf_84 : decode cL_numberOf 84 = .ok (.goto (-70), 3) := by decide +kernel
theorem dL_numberOf_87 : decode cL_numberOf 87 = .ok (.iload_n 3, 1) := by decide +kernel
theorem dL_numberOf_88 : decode cL_numberOf 88 = .ok (.ireturn, 1) := by decide +kernel
