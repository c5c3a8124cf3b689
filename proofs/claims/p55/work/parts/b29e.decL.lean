theorem dL_sum_0 : decode cL_sum 0 = .ok (.ldc2_w 347, 3) := by decide +kernel
theorem dL_sum_3 : decode cL_sum 3 = .ok (.aload_n 0, 1) := by decide +kernel
theorem dL_sum_4 : decode cL_sum 4 = .ok (.invokevirtual 349, 3) := by decide +kernel
theorem dL_sum_7 : decode cL_sum 7 = .ok (.i2l, 1) := by decide +kernel
theorem dL_sum_8 : decode cL_sum 8 = .ok (.ladd, 1) := by decide +kernel
theorem dL_sum_9 : decode cL_sum 9 = .ok (.lstore_n 1, 1) := by decide +kernel
theorem dL_sum_10 : decode cL_sum 10 = .ok (.ldc2_w 352, 3) := by decide +kernel
theorem dL_sum_13 : decode cL_sum 13 = .ok (.lload_n 1, 1) := by decide +kernel
theorem dL_sum_14 : decode cL_sum 14 = .ok (.lmul, 1) := by decide +kernel
theorem dL_sum_15 : decode cL_sum 15 = .ok (.aload_n 0, 1) := by decide +kernel
theorem dL_sum_16 : decode cL_sum 16 = .ok (.invokevirtual 354, 3) := by decide +kernel
theorem dL_sum_19 : decode cL_sum 19 = .ok (.i2l, 1) := by decide +kernel
theorem dL_sum_20 : decode cL_sum 20 = .ok (.ladd, 1) := by decide +kernel
theorem dL_sum_21 : decode cL_sum 21 = .ok (.lstore_n 1, 1) := by decide +kernel
theorem dL_sum_22 : decode cL_sum 22 = .ok (.ldc2_w 352, 3) := by decide +kernel
theorem dL_sum_25 : decode cL_sum 25 = .ok (.lload_n 1, 1) := by decide +kernel
theorem dL_sum_26 : decode cL_sum 26 = .ok (.lmul, 1) := by decide +kernel
theorem dL_sum_27 : decode cL_sum 27 = .ok (.bipush 100, 2) := by decide +kernel
theorem dL_sum_29 : decode cL_sum 29 = .ok (.aload_n 0, 1) := by decide +kernel
theorem dL_sum_30 : decode cL_sum 30 = .ok (.invokevirtual 268, 3) := by decide +kernel
theorem dL_sum_33 : decode cL_sum 33 = .ok (.imul, 1) := by decide +kernel
theorem dL_sum_34 : decode cL_sum 34 = .ok (.i2l, 1) := by decide +kernel
theorem dL_sum_35 : decode cL_sum 35 = .ok (.ladd, 1) := by decide +kernel
theorem dL_sum_36 : decode cL_sum 36 = .ok (.aload_n 0, 1) := by decide +kernel
theorem dL_sum_37 : decode cL_sum 37 = .ok (.invokevirtual 324, 3) := by decide +kernel
theorem dL_sum_40 : decode cL_sum 40 = .ok (.i2l, 1) := by decide +kernel
theorem dL_sum_41 : decode cL_sum 41 = .ok (.ladd, 1) := by decide +kernel
theorem dL_sum_42 : decode cL_sum 42 = .ok (.lstore_n 1, 1) := by decide +kernel
theorem dL_sum_43 : decode cL_sum 43 = .ok (.iconst 0, 1) := by decide +kernel
theorem dL_sum_44 : decode cL_sum 44 = .ok (.istore_n 3, 1) := by decide +kernel
theorem dL_sum_45 : decode cL_sum 45 = .ok (.iload_n 3, 1) := by decide +kernel
theorem dL_sum_46 : decode cL_sum 46 = .ok (.aload_n 0, 1) := by decide +kernel
theorem dL_sum_47 : decode cL_sum 47 = .ok (.invokevirtual 203, 3) := by decide +kernel
theorem dL_sum_50 : decode cL_sum 50 = .ok (.if_icmp .ge 81, 3) := by decide +kernel
theorem dL_sum_53 : decode cL_sum 53 = .ok (.iconst 0, 1) := by decide +kernel
theorem dL_sum_54 : decode cL_sum 54 = .ok (.istore 4, 2) := by decide +kernel
theorem dL_sum_56 : decode cL_sum 56 = .ok (.iload 4, 2) := by decide +kernel
theorem dL_sum_58 : decode cL_sum 58 = .ok (.iload_n 3, 1) := by decide +kernel
theorem dL_sum_59 : decode cL_sum 59 = .ok (.if_icmp .ge 24, 3) := by decide +kernel
theorem dL_sum_62 : decode cL_sum 62 = .ok (.ldc2_w 357, 3) := by decide +kernel
theorem dL_sum_65 : decode cL_sum 65 = .ok (.lload_n 1, 1) := by decide +kernel
theorem dL_sum_66 : decode cL_sum 66 = .ok (.lmul, 1) := by decide +kernel
theorem dL_sum_67 : decode cL_sum 67 = .ok (.aload_n 0, 1) := by decide +kernel
theorem dL_sum_68 : decode cL_sum 68 = .ok (.iload_n 3, 1) := by decide +kernel
theorem dL_sum_69 : decode cL_sum 69 = .ok (.iload 4, 2) := by decide +kernel
theorem dL_sum_71 : decode cL_sum 71 = .ok (.invokestatic 206, 3) := by decide +kernel
theorem dL_sum_74 : decode cL_sum 74 = .ok (.i2l, 1) := by decide +kernel
theorem dL_sum_75 : decode cL_sum 75 = .ok (.ladd, 1) := by decide +kernel
theorem dL_sum_76 : decode cL_sum 76 = .ok (.lstore_n 1, 1) := by decide +kernel
theorem dL_sum_77 : decode cL_sum 77 = .ok (.iinc 4 1, 3) := by decide +kernel
theorem dL_sum_80 : decode cL_sum 80 = .ok (.goto (-24), 3) := by decide +kernel
theorem dL_sum_83 : decode cL_sum 83 = .ok (.aload_n 0, 1) := by decide +kernel
theorem dL_sum_84 : decode cL_sum 84 = .ok (.invokevirtual 349, 3) := by decide +kernel
theorem dL_sum_87 : decode cL_sum 87 = .ok (.bipush 20, 2) := by decide +kernel
theorem dL_sum_89 : decode cL_sum 89 = .ok (.isub, 1) := by decide +kernel
theorem dL_sum_90 : decode cL_sum 90 = .ok (.istore 4, 2) := by decide +kernel
theorem dL_sum_92 : decode cL_sum 92 = .ok (.iload 4, 2) := by decide +kernel
theorem dL_sum_94 : decode cL_sum 94 = .ok (.aload_n 0, 1) := by decide +kernel
theorem dL_sum_95 : decode cL_sum 95 = .ok (.invokevirtual 349, 3) := by decide +kernel
theorem dL_sum_98 : decode cL_sum 98 = .ok (.bipush 70, 2) := by decide +kernel
theorem dL_sum_100 : decode cL_sum 100 = .ok (.iadd, 1) := by decide +kernel
theorem dL_sum_101 : decode cL_sum 101 = .ok (.if_icmp .ge 24, 3) := by decide +kernel
theorem dL_sum_104 : decode cL_sum 104 = .ok (.ldc2_w 359, 3) := by decide +kernel
theorem dL_sum_107 : decode cL_sum 107 = .ok (.lload_n 1, 1) := by decide +kernel
theorem dL_sum_108 : decode cL_sum 108 = .ok (.lmul, 1) := by decide +kernel
theorem dL_sum_109 : decode cL_sum 109 = .ok (.aload_n 0, 1) := by decide +kernel
theorem dL_sum_110 : decode cL_sum 110 = .ok (.iload_n 3, 1) := by decide +kernel
theorem dL_sum_111 : decode cL_sum 111 = .ok (.iload 4, 2) := by decide +kernel
theorem dL_sum_113 : decode cL_sum 113 = .ok (.invokevirtual 112, 3) := by decide +kernel
theorem dL_sum_116 : decode cL_sum 116 = .ok (.i2l, 1) := by decide +kernel
theorem dL_sum_117 : decode cL_sum 117 = .ok (.ladd, 1) := by decide +kernel
theorem dL_sum_118 : decode cL_sum 118 = .ok (.lstore_n 1, 1) := by decide +kernel
theorem dL_sum_119 : decode cL_sum 119 = .ok (.iinc 4 1, 3) := by decide +kernel
theorem dL_sum_122 : decode cL_sum 122 = .ok (.goto (-30), 3) := by decide +kernel
theorem dL_sum_125 : decode cL_sum 125 = .ok (.iinc 3 1, 3) := by decide +kernel
theorem dL_sum_128 : decode cL_sum 128 = .ok (.goto (-83), 3) := by decide +kernel
theorem dL_sum_131 : decode cL_sum 131 = .ok (.iconst 0, 1) := by decide +kernel
theorem dL_sum_132 : decode cL_sum 132 = .ok (.istore_n 3, 1) := by decide +kernel
theorem dL_sum_133 : decode cL_sum 133 = .ok (.iload_n 3, 1) := by decide +kernel
theorem dL_sum_134 : decode cL_sum 134 = .ok (.aload_n 0, 1) := by decide +kernel
theorem dL_sum_135 : decode cL_sum 135 = .ok (.invokevirtual 243, 3) := by decide +kernel
theorem dL_sum_138 : decode cL_sum 138 = .ok (.if_icmp .ge 63, 3) := by decide +kernel
theorem dL_sum_141 : decode cL_sum 141 = .ok (.ldc2_w 361, 3) := by decide +kernel
theorem dL_sum_144 : decode cL_sum 144 = .ok (.lload_n 1, 1) := by decide +kernel
theorem dL_sum_145 : decode cL_sum 145 = .ok (.lmul, 1) := by decide +kernel
theorem dL_sum_146 : decode cL_sum 146 = .ok (.bipush 10, 2) := by decide +kernel
theorem dL_sum_148 : decode cL_sum 148 = .ok (.aload_n 0, 1) := by decide +kernel
theorem dL_sum_149 : decode cL_sum 149 = .ok (.iload_n 3, 1) := by decide +kernel
theorem dL_sum_150 : decode cL_sum 150 = .ok (.invokevirtual 53, 3) := by decide +kernel
theorem dL_sum_153 : decode cL_sum 153 = .ok (.imul, 1) := by decide +kernel
theorem dL_sum_154 : decode cL_sum 154 = .ok (.i2l, 1) := by decide +kernel
theorem dL_sum_155 : decode cL_sum 155 = .ok (.ladd, 1) := by decide +kernel
theorem dL_sum_156 : decode cL_sum 156 = .ok (.aload_n 0, 1) := by decide +kernel
theorem dL_sum_157 : decode cL_sum 157 = .ok (.iload_n 3, 1) := by decide +kernel
theorem dL_sum_158 : decode cL_sum 158 = .ok (.invokevirtual 56, 3) := by decide +kernel
theorem dL_sum_161 : decode cL_sum 161 = .ok (.ifCond .eq 7, 3) := by decide +kernel
theorem dL_sum_164 : decode cL_sum 164 = .ok (.iconst 1, 1) := by decide +kernel
theorem dL_sum_165 : decode cL_sum 165 = .ok (.goto 4, 3) := by decide +kernel
theorem dL_sum_168 : decode cL_sum 168 = .ok (.iconst 0, 1) := by decide +kernel
theorem dL_sum_169 : decode cL_sum 169 = .ok (.i2l, 1) := by decide +kernel
theorem dL_sum_170 : decode cL_sum 170 = .ok (.ladd, 1) := by decide +kernel
theorem dL_sum_171 : decode cL_sum 171 = .ok (.lstore_n 1, 1) := by decide +kernel
theorem dL_sum_172 : decode cL_sum 172 = .ok (.ldc2_w 363, 3) := by decide +kernel
theorem dL_sum_175 : decode cL_sum 175 = .ok (.lload_n 1, 1) := by decide +kernel
theorem dL_sum_176 : decode cL_sum 176 = .ok (.lmul, 1) := by decide +kernel
theorem dL_sum_177 : decode cL_sum 177 = .ok (.bipush 20, 2) := by decide +kernel
theorem dL_sum_179 : decode cL_sum 179 = .ok (.aload_n 0, 1) := by decide +kernel
theorem dL_sum_180 : decode cL_sum 180 = .ok (.iload_n 3, 1) := by decide +kernel
theorem dL_sum_181 : decode cL_sum 181 = .ok (.invokevirtual 63, 3) := by decide +kernel
theorem dL_sum_184 : decode cL_sum 184 = .ok (.imul, 1) := by decide +kernel
theorem dL_sum_185 : decode cL_sum 185 = .ok (.i2l, 1) := by decide +kernel
theorem dL_sum_186 : decode cL_sum 186 = .ok (.ladd, 1) := by decide +kernel
theorem dL_sum_187 : decode cL_sum 187 = .ok (.aload_n 0, 1) := by decide +kernel
theorem dL_sum_188 : decode cL_sum 188 = .ok (.iload_n 3, 1) := by decide +kernel
theorem dL_sum_189 : decode cL_sum 189 = .ok (.invokestatic 265, 3) := by decide +kernel
theorem dL_sum_192 : decode cL_sum 192 = .ok (.i2l, 1) := by decide +kernel
theorem dL_sum_193 : decode cL_sum 193 = .ok (.ladd, 1) := by decide +kernel
theorem dL_sum_194 : decode cL_sum 194 = .ok (.lstore_n 1, 1) := by decide +kernel
theorem dL_sum_195 : decode cL_sum 195 = .ok (.iinc 3 1, 3) := by decide +kernel
theorem dL_sum_198 : decode cL_sum 198 = .ok (.goto (-65), 3) := by decide +kernel
theorem dL_sum_201 : decode cL_sum 201 = .ok (.iconst 0, 1) := by decide +kernel
theorem dL_sum_202 : decode cL_sum 202 = .ok (.istore_n 3, 1) := by decide +kernel
theorem dL_sum_203 : decode cL_sum 203 = .ok (.iload_n 3, 1) := by decide +kernel
theorem dL_sum_204 : decode cL_sum 204 = .ok (.aload_n 0, 1) := by decide +kernel
theorem dL_sum_205 : decode cL_sum 205 = .ok (.invokevirtual 246, 3) := by decide +kernel
theorem dL_sum_208 : decode cL_sum 208 = .ok (.if_icmp .ge 85, 3) := by decide +kernel
theorem dL_sum_211 : decode cL_sum 211 = .ok (.aload_n 0, 1) := by decide +kernel
theorem dL_sum_212 : decode cL_sum 212 = .ok (.iload_n 3, 1) := by decide +kernel
theorem dL_sum_213 : decode cL_sum 213 = .ok (.invokevirtual 78, 3) := by decide +kernel
theorem dL_sum_216 : decode cL_sum 216 = .ok (.istore 4, 2) := by decide +kernel
theorem dL_sum_218 : decode cL_sum 218 = .ok (.ldc2_w 365, 3) := by decide +kernel
theorem dL_sum_221 : decode cL_sum 221 = .ok (.lload_n 1, 1) := by decide +kernel
theorem dL_sum_222 : decode cL_sum 222 = .ok (.lmul, 1) := by decide +kernel
theorem dL_sum_223 : decode cL_sum 223 = .ok (.bipush 100, 2) := by decide +kernel
theorem dL_sum_225 : decode cL_sum 225 = .ok (.iload 4, 2) := by decide +kernel
theorem dL_sum_227 : decode cL_sum 227 = .ok (.imul, 1) := by decide +kernel
theorem dL_sum_228 : decode cL_sum 228 = .ok (.i2l, 1) := by decide +kernel
theorem dL_sum_229 : decode cL_sum 229 = .ok (.ladd, 1) := by decide +kernel
theorem dL_sum_230 : decode cL_sum 230 = .ok (.bipush 10, 2) := by decide +kernel
theorem dL_sum_232 : decode cL_sum 232 = .ok (.aload_n 0, 1) := by decide +kernel
theorem dL_sum_233 : decode cL_sum 233 = .ok (.iload 4, 2) := by decide +kernel
theorem dL_sum_235 : decode cL_sum 235 = .ok (.invokevirtual 81, 3) := by decide +kernel
theorem dL_sum_238 : decode cL_sum 238 = .ok (.imul, 1) := by decide +kernel
theorem dL_sum_239 : decode cL_sum 239 = .ok (.i2l, 1) := by decide +kernel
theorem dL_sum_240 : decode cL_sum 240 = .ok (.ladd, 1) := by decide +kernel
theorem dL_sum_241 : decode cL_sum 241 = .ok (.aload_n 0, 1) := by decide +kernel
theorem dL_sum_242 : decode cL_sum 242 = .ok (.iload 4, 2) := by decide +kernel
theorem dL_sum_244 : decode cL_sum 244 = .ok (.invokevirtual 84, 3) := by decide +kernel
theorem dL_sum_247 : decode cL_sum 247 = .ok (.i2l, 1) := by decide +kernel
theorem dL_sum_248 : decode cL_sum 248 = .ok (.ladd, 1) := by decide +kernel
theorem dL_sum_249 : decode cL_sum 249 = .ok (.lstore_n 1, 1) := by decide +kernel
theorem dL_sum_250 : decode cL_sum 250 = .ok (.ldc2_w 367, 3) := by decide +kernel
theorem dL_sum_253 : decode cL_sum 253 = .ok (.lload_n 1, 1) := by decide +kernel
theorem dL_sum_254 : decode cL_sum 254 = .ok (.lmul, 1) := by decide +kernel
theorem dL_sum_255 : decode cL_sum 255 = .ok (.sipush 1000, 3) := by decide +kernel
theorem dL_sum_258 : decode cL_sum 258 = .ok (.aload_n 0, 1) := by decide +kernel
theorem dL_sum_259 : decode cL_sum 259 = .ok (.iload 4, 2) := by decide +kernel
theorem dL_sum_261 : decode cL_sum 261 = .ok (.invokevirtual 87, 3) := by decide +kernel
theorem dL_sum_264 : decode cL_sum 264 = .ok (.imul, 1) := by decide +kernel
theorem dL_sum_265 : decode cL_sum 265 = .ok (.i2l, 1) := by decide +kernel
theorem dL_sum_266 : decode cL_sum 266 = .ok (.ladd, 1) := by decide +kernel
theorem dL_sum_267 : decode cL_sum 267 = .ok (.bipush 10, 2) := by decide +kernel
theorem dL_sum_269 : decode cL_sum 269 = .ok (.aload_n 0, 1) := by decide +kernel
theorem dL_sum_270 : decode cL_sum 270 = .ok (.iload 4, 2) := by decide +kernel
theorem dL_sum_272 : decode cL_sum 272 = .ok (.invokevirtual 91, 3) := by decide +kernel
theorem dL_sum_275 : decode cL_sum 275 = .ok (.imul, 1) := by decide +kernel
theorem dL_sum_276 : decode cL_sum 276 = .ok (.i2l, 1) := by decide +kernel
theorem dL_sum_277 : decode cL_sum 277 = .ok (.ladd, 1) := by decide +kernel
theorem dL_sum_278 : decode cL_sum 278 = .ok (.aload_n 0, 1) := by decide +kernel
theorem dL_sum_279 : decode cL_sum 279 = .ok (.iload 4, 2) := by decide +kernel
theorem dL_sum_281 : decode cL_sum 281 = .ok (.invokevirtual 94, 3) := by decide +kernel
theorem dL_sum_284 : decode cL_sum 284 = .ok (.i2l, 1) := by decide +kernel
theorem dL_sum_285 : decode cL_sum 285 = .ok (.ladd, 1) := by decide +kernel
theorem dL_sum_286 : decode cL_sum 286 = .ok (.lstore_n 1, 1) := by decide +kernel
theorem dL_sum_287 : decode cL_sum 287 = .ok (.iinc 3 1, 3) := by decide +kernel
theorem dL_sum_290 : decode cL_sum 290 = .ok (.goto (-87), 3) := by decide +kernel
theorem dL_sum_293 : decode cL_sum 293 = .ok (.lload_n 1, 1) := by decide +kernel
theorem dL_sum_294 : decode cL_sum 294 = .ok (.lreturn, 1) := by decide +kernel
