theorem dL_undone_0 : decode cL_undone 0 = .ok (.bipush 9, 2) := by decide +kernel
theorem dL_undone_2 : decode cL_undone 2 = .ok (.newarray .long, 2) := by decide +kernel
theorem dL_undone_4 : decode cL_undone 4 = .ok (.astore_n 2, 1) := by decide +kernel
theorem dL_undone_5 : decode cL_undone 5 = .ok (.iconst 0, 1) := by decide +kernel
theorem dL_undone_6 : decode cL_undone 6 = .ok (.istore_n 3, 1) := by decide +kernel
theorem dL_undone_7 : decode cL_undone 7 = .ok (.iconst 0, 1) := by decide +kernel
theorem dL_undone_8 : decode cL_undone 8 = .ok (.istore 4, 2) := by decide +kernel
theorem dL_undone_10 : decode cL_undone 10 = .ok (.iload 4, 2) := by decide +kernel
theorem dL_undone_12 : decode cL_undone 12 = .ok (.bipush 7, 2) := by decide +kernel
theorem dL_undone_14 : decode cL_undone 14 = .ok (.if_icmp .ge 407, 3) := by decide +kernel
theorem dL_undone_17 : decode cL_undone 17 = .ok (.aload_n 0, 1) := by decide +kernel
theorem dL_undone_18 : decode cL_undone 18 = .ok (.bipush 23, 2) := by decide +kernel
theorem dL_undone_20 : decode cL_undone 20 = .ok (.iload 4, 2) := by decide +kernel
theorem dL_undone_22 : decode cL_undone 22 = .ok (.iadd, 1) := by decide +kernel
theorem dL_undone_23 : decode cL_undone 23 = .ok (.invokestatic 158, 3) := by decide +kernel
theorem dL_undone_26 : decode cL_undone 26 = .ok (.iconst 1, 1) := by decide +kernel
theorem dL_undone_27 : decode cL_undone 27 = .ok (.iushr, 1) := by decide +kernel
theorem dL_undone_28 : decode cL_undone 28 = .ok (.istore 5, 2) := by decide +kernel
theorem dL_undone_30 : decode cL_undone 30 = .ok (.iload 5, 2) := by decide +kernel
theorem dL_undone_32 : decode cL_undone 32 = .ok (.iconst 4, 1) := by decide +kernel
theorem dL_undone_33 : decode cL_undone 33 = .ok (.iushr, 1) := by decide +kernel
theorem dL_undone_34 : decode cL_undone 34 = .ok (.istore 6, 2) := by decide +kernel
theorem dL_undone_36 : decode cL_undone 36 = .ok (.aload_n 2, 1) := by decide +kernel
theorem dL_undone_37 : decode cL_undone 37 = .ok (.iload_n 3, 1) := by decide +kernel
theorem dL_undone_38 : decode cL_undone 38 = .ok (.aload_n 1, 1) := by decide +kernel
theorem dL_undone_39 : decode cL_undone 39 = .ok (.invokestatic 369, 3) := by decide +kernel
theorem dL_undone_42 : decode cL_undone 42 = .ok (.lastore, 1) := by decide +kernel
theorem dL_undone_43 : decode cL_undone 43 = .ok (.iload 5, 2) := by decide +kernel
theorem dL_undone_45 : decode cL_undone 45 = .ok (.bipush 10, 2) := by decide +kernel
theorem dL_undone_47 : decode cL_undone 47 = .ok (.irem, 1) := by decide +kernel
theorem dL_undone_48 : decode cL_undone 48 = .ok (.tableswitch 241 0 8 #[52, 61, 90, 111, 155, 184, 184, 213, 227], 52) := by decide +kernel
theorem dL_undone_100 : decode cL_undone 100 = .ok (.aload_n 1, 1) := by decide +kernel
theorem dL_undone_101 : decode cL_undone 101 = .ok (.invokestatic 162, 3) := by decide +kernel
theorem dL_undone_104 : decode cL_undone 104 = .ok (.istore 7, 2) := by decide +kernel
theorem dL_undone_106 : decode cL_undone 106 = .ok (.goto 278, 3) := by decide +kernel
theorem dL_undone_109 : decode cL_undone 109 = .ok (.aload_n 1, 1) := by decide +kernel
theorem dL_undone_110 : decode cL_undone 110 = .ok (.iload 6, 2) := by decide +kernel
theorem dL_undone_112 : decode cL_undone 112 = .ok (.bipush 8, 2) := by decide +kernel
theorem dL_undone_114 : decode cL_undone 114 = .ok (.irem, 1) := by decide +kernel
theorem dL_undone_115 : decode cL_undone 115 = .ok (.iload 6, 2) := by decide +kernel
theorem dL_undone_117 : decode cL_undone 117 = .ok (.iconst 3, 1) := by decide +kernel
theorem dL_undone_118 : decode cL_undone 118 = .ok (.iushr, 1) := by decide +kernel
theorem dL_undone_119 : decode cL_undone 119 = .ok (.bipush 8, 2) := by decide +kernel
theorem dL_undone_121 : decode cL_undone 121 = .ok (.irem, 1) := by decide +kernel
theorem dL_undone_122 : decode cL_undone 122 = .ok (.iload 6, 2) := by decide +kernel
theorem dL_undone_124 : decode cL_undone 124 = .ok (.bipush 6, 2) := by decide +kernel
theorem dL_undone_126 : decode cL_undone 126 = .ok (.iushr, 1) := by decide +kernel
theorem dL_undone_127 : decode cL_undone 127 = .ok (.bipush 11, 2) := by decide +kernel
theorem dL_undone_129 : decode cL_undone 129 = .ok (.irem, 1) := by decide +kernel
theorem dL_undone_130 : decode cL_undone 130 = .ok (.invokestatic 164, 3) := by decide +kernel
theorem dL_undone_133 : decode cL_undone 133 = .ok (.istore 7, 2) := by decide +kernel
theorem dL_undone_135 : decode cL_undone 135 = .ok (.goto 249, 3) := by decide +kernel
theorem dL_undone_138 : decode cL_undone 138 = .ok (.aload_n 1, 1) := by decide +kernel
theorem dL_undone_139 : decode cL_undone 139 = .ok (.iload 6, 2) := by decide +kernel
theorem dL_undone_141 : decode cL_undone 141 = .ok (.bipush 8, 2) := by decide +kernel
theorem dL_undone_143 : decode cL_undone 143 = .ok (.irem, 1) := by decide +kernel
theorem dL_undone_144 : decode cL_undone 144 = .ok (.iload 6, 2) := by decide +kernel
theorem dL_undone_146 : decode cL_undone 146 = .ok (.iconst 3, 1) := by decide +kernel
theorem dL_undone_147 : decode cL_undone 147 = .ok (.iushr, 1) := by decide +kernel
theorem dL_undone_148 : decode cL_undone 148 = .ok (.bipush 8, 2) := by decide +kernel
theorem dL_undone_150 : decode cL_undone 150 = .ok (.irem, 1) := by decide +kernel
theorem dL_undone_151 : decode cL_undone 151 = .ok (.invokestatic 373, 3) := by decide +kernel
theorem dL_undone_154 : decode cL_undone 154 = .ok (.istore 7, 2) := by decide +kernel
theorem dL_undone_156 : decode cL_undone 156 = .ok (.goto 228, 3) := by decide +kernel
theorem dL_undone_159 : decode cL_undone 159 = .ok (.iload 6, 2) := by decide +kernel
theorem dL_undone_161 : decode cL_undone 161 = .ok (.iconst 2, 1) := by decide +kernel
theorem dL_undone_162 : decode cL_undone 162 = .ok (.irem, 1) := by decide +kernel
theorem dL_undone_163 : decode cL_undone 163 = .ok (.ifCond .ne 17, 3) := by decide +kernel
theorem dL_undone_166 : decode cL_undone 166 = .ok (.aload_n 1, 1) := by decide +kernel
theorem dL_undone_167 : decode cL_undone 167 = .ok (.iload 6, 2) := by decide +kernel
theorem dL_undone_169 : decode cL_undone 169 = .ok (.iconst 1, 1) := by decide +kernel
theorem dL_undone_170 : decode cL_undone 170 = .ok (.iushr, 1) := by decide +kernel
theorem dL_undone_171 : decode cL_undone 171 = .ok (.bipush 9, 2) := by decide +kernel
theorem dL_undone_173 : decode cL_undone 173 = .ok (.irem, 1) := by decide +kernel
theorem dL_undone_174 : decode cL_undone 174 = .ok (.invokestatic 167, 3) := by decide +kernel
theorem dL_undone_177 : decode cL_undone 177 = .ok (.goto 21, 3) := by decide +kernel
theorem dL_undone_180 : decode cL_undone 180 = .ok (.aload_n 1, 1) := by decide +kernel
theorem dL_undone_181 : decode cL_undone 181 = .ok (.iload 6, 2) := by decide +kernel
theorem dL_undone_183 : decode cL_undone 183 = .ok (.iconst 1, 1) := by decide +kernel
theorem dL_undone_184 : decode cL_undone 184 = .ok (.iushr, 1) := by decide +kernel
theorem dL_undone_185 : decode cL_undone 185 = .ok (.bipush 7, 2) := by decide +kernel
theorem dL_undone_187 : decode cL_undone 187 = .ok (.irem, 1) := by decide +kernel
theorem dL_undone_188 : decode cL_undone 188 = .ok (.iload 6, 2) := by decide +kernel
theorem dL_undone_190 : decode cL_undone 190 = .ok (.iconst 4, 1) := by decide +kernel
theorem dL_undone_191 : decode cL_undone 191 = .ok (.iushr, 1) := by decide +kernel
theorem dL_undone_192 : decode cL_undone 192 = .ok (.bipush 8, 2) := by decide +kernel
theorem dL_undone_194 : decode cL_undone 194 = .ok (.irem, 1) := by decide +kernel
theorem dL_undone_195 : decode cL_undone 195 = .ok (.invokestatic 176, 3) := by decide +kernel
theorem dL_undone_198 : decode cL_undone 198 = .ok (.istore 7, 2) := by decide +kernel
theorem dL_undone_200 : decode cL_undone 200 = .ok (.goto 184, 3) := by decide +kernel
theorem dL_undone_203 : decode cL_undone 203 = .ok (.aload_n 1, 1) := by decide +kernel
theorem dL_undone_204 : decode cL_undone 204 = .ok (.iload 6, 2) := by decide +kernel
theorem dL_undone_206 : decode cL_undone 206 = .ok (.bipush 7, 2) := by decide +kernel
theorem dL_undone_208 : decode cL_undone 208 = .ok (.irem, 1) := by decide +kernel
theorem dL_undone_209 : decode cL_undone 209 = .ok (.iload 5, 2) := by decide +kernel
theorem dL_undone_211 : decode cL_undone 211 = .ok (.bipush 20, 2) := by decide +kernel
theorem dL_undone_213 : decode cL_undone 213 = .ok (.irem, 1) := by decide +kernel
theorem dL_undone_214 : decode cL_undone 214 = .ok (.bipush 10, 2) := by decide +kernel
theorem dL_undone_216 : decode cL_undone 216 = .ok (.if_icmp .ge 7, 3) := by decide +kernel
theorem dL_undone_219 : decode cL_undone 219 = .ok (.iconst 1, 1) := by decide +kernel
theorem dL_undone_220 : decode cL_undone 220 = .ok (.goto 4, 3) := by decide +kernel
theorem dL_undone_223 : decode cL_undone 223 = .ok (.iconst 0, 1) := by decide +kernel
theorem dL_undone_224 : decode cL_undone 224 = .ok (.invokestatic 172, 3) := by decide +kernel
theorem dL_undone_227 : decode cL_undone 227 = .ok (.istore 7, 2) := by decide +kernel
theorem dL_undone_229 : decode cL_undone 229 = .ok (.goto 155, 3) := by decide +kernel
theorem dL_undone_232 : decode cL_undone 232 = .ok (.aload_n 1, 1) := by decide +kernel
theorem dL_undone_233 : decode cL_undone 233 = .ok (.iload 6, 2) := by decide +kernel
theorem dL_undone_235 : decode cL_undone 235 = .ok (.bipush 6, 2) := by decide +kernel
theorem dL_undone_237 : decode cL_undone 237 = .ok (.irem, 1) := by decide +kernel
theorem dL_undone_238 : decode cL_undone 238 = .ok (.iload 6, 2) := by decide +kernel
theorem dL_undone_240 : decode cL_undone 240 = .ok (.iconst 3, 1) := by decide +kernel
theorem dL_undone_241 : decode cL_undone 241 = .ok (.iushr, 1) := by decide +kernel
theorem dL_undone_242 : decode cL_undone 242 = .ok (.bipush 6, 2) := by decide +kernel
theorem dL_undone_244 : decode cL_undone 244 = .ok (.irem, 1) := by decide +kernel
theorem dL_undone_245 : decode cL_undone 245 = .ok (.iload 6, 2) := by decide +kernel
theorem dL_undone_247 : decode cL_undone 247 = .ok (.bipush 6, 2) := by decide +kernel
theorem dL_undone_249 : decode cL_undone 249 = .ok (.iushr, 1) := by decide +kernel
theorem dL_undone_250 : decode cL_undone 250 = .ok (.bipush 17, 2) := by decide +kernel
theorem dL_undone_252 : decode cL_undone 252 = .ok (.irem, 1) := by decide +kernel
theorem dL_undone_253 : decode cL_undone 253 = .ok (.invokestatic 170, 3) := by decide +kernel
theorem dL_undone_256 : decode cL_undone 256 = .ok (.istore 7, 2) := by decide +kernel
theorem dL_undone_258 : decode cL_undone 258 = .ok (.goto 126, 3) := by decide +kernel
theorem dL_undone_261 : decode cL_undone 261 = .ok (.aload_n 1, 1) := by decide +kernel
theorem dL_undone_262 : decode cL_undone 262 = .ok (.iload 6, 2) := by decide +kernel
theorem dL_undone_264 : decode cL_undone 264 = .ok (.bipush 12, 2) := by decide +kernel
theorem dL_undone_266 : decode cL_undone 266 = .ok (.irem, 1) := by decide +kernel
theorem dL_undone_267 : decode cL_undone 267 = .ok (.invokestatic 375, 3) := by decide +kernel
theorem dL_undone_270 : decode cL_undone 270 = .ok (.istore 7, 2) := by decide +kernel
theorem dL_undone_272 : decode cL_undone 272 = .ok (.goto 112, 3) := by decide +kernel
theorem dL_undone_275 : decode cL_undone 275 = .ok (.aload_n 1, 1) := by decide +kernel
theorem dL_undone_276 : decode cL_undone 276 = .ok (.iload 6, 2) := by decide +kernel
theorem dL_undone_278 : decode cL_undone 278 = .ok (.bipush 42, 2) := by decide +kernel
theorem dL_undone_280 : decode cL_undone 280 = .ok (.irem, 1) := by decide +kernel
theorem dL_undone_281 : decode cL_undone 281 = .ok (.invokestatic 179, 3) := by decide +kernel
theorem dL_undone_284 : decode cL_undone 284 = .ok (.istore 7, 2) := by decide +kernel
theorem dL_undone_286 : decode cL_undone 286 = .ok (.goto 98, 3) := by decide +kernel
theorem dL_undone_289 : decode cL_undone 289 = .ok (.aload_n 1, 1) := by decide +kernel
theorem dL_undone_290 : decode cL_undone 290 = .ok (.new 283, 3) := by decide +kernel
theorem dL_undone_293 : decode cL_undone 293 = .ok (.dup, 1) := by decide +kernel
theorem dL_undone_294 : decode cL_undone 294 = .ok (.invokespecial 285, 3) := by decide +kernel
theorem dL_undone_297 : decode cL_undone 297 = .ok (.ldc_w 377, 3) := by decide +kernel
theorem dL_undone_300 : decode cL_undone 300 = .ok (.invokevirtual 292, 3) := by decide +kernel
theorem dL_undone_303 : decode cL_undone 303 = .ok (.iconst 1, 1) := by decide +kernel
theorem dL_undone_304 : decode cL_undone 304 = .ok (.iload 6, 2) := by decide +kernel
theorem dL_undone_306 : decode cL_undone 306 = .ok (.bipush 7, 2) := by decide +kernel
theorem dL_undone_308 : decode cL_undone 308 = .ok (.irem, 1) := by decide +kernel
theorem dL_undone_309 : decode cL_undone 309 = .ok (.iadd, 1) := by decide +kernel
theorem dL_undone_310 : decode cL_undone 310 = .ok (.invokevirtual 286, 3) := by decide +kernel
theorem dL_undone_313 : decode cL_undone 313 = .ok (.ldc_w 379, 3) := by decide +kernel
theorem dL_undone_316 : decode cL_undone 316 = .ok (.invokevirtual 292, 3) := by decide +kernel
theorem dL_undone_319 : decode cL_undone 319 = .ok (.iload 6, 2) := by decide +kernel
theorem dL_undone_321 : decode cL_undone 321 = .ok (.iconst 3, 1) := by decide +kernel
theorem dL_undone_322 : decode cL_undone 322 = .ok (.iushr, 1) := by decide +kernel
theorem dL_undone_323 : decode cL_undone 323 = .ok (.iconst 5, 1) := by decide +kernel
theorem dL_undone_324 : decode cL_undone 324 = .ok (.irem, 1) := by decide +kernel
theorem dL_undone_325 : decode cL_undone 325 = .ok (.invokevirtual 286, 3) := by decide +kernel
theorem dL_undone_328 : decode cL_undone 328 = .ok (.ldc_w 295, 3) := by decide +kernel
theorem dL_undone_331 : decode cL_undone 331 = .ok (.invokevirtual 292, 3) := by decide +kernel
theorem dL_undone_334 : decode cL_undone 334 = .ok (.iload 6, 2) := by decide +kernel
theorem dL_undone_336 : decode cL_undone 336 = .ok (.bipush 6, 2) := by decide +kernel
theorem dL_undone_338 : decode cL_undone 338 = .ok (.iushr, 1) := by decide +kernel
theorem dL_undone_339 : decode cL_undone 339 = .ok (.iconst 5, 1) := by decide +kernel
theorem dL_undone_340 : decode cL_undone 340 = .ok (.irem, 1) := by decide +kernel
theorem dL_undone_341 : decode cL_undone 341 = .ok (.invokevirtual 286, 3) := by decide +kernel
theorem dL_undone_344 : decode cL_undone 344 = .ok (.ldc_w 381, 3) := by decide +kernel
theorem dL_undone_347 : decode cL_undone 347 = .ok (.invokevirtual 292, 3) := by decide +kernel
theorem dL_undone_350 : decode cL_undone 350 = .ok (.iload 6, 2) := by decide +kernel
theorem dL_undone_352 : decode cL_undone 352 = .ok (.bipush 9, 2) := by decide +kernel
theorem dL_undone_354 : decode cL_undone 354 = .ok (.iushr, 1) := by decide +kernel
theorem dL_undone_355 : decode cL_undone 355 = .ok (.iconst 5, 1) := by decide +kernel
theorem dL_undone_356 : decode cL_undone 356 = .ok (.irem, 1) := by decide +kernel
theorem dL_undone_357 : decode cL_undone 357 = .ok (.invokevirtual 286, 3) := by decide +kernel
theorem dL_undone_360 : decode cL_undone 360 = .ok (.ldc_w 383, 3) := by decide +kernel
theorem dL_undone_363 : decode cL_undone 363 = .ok (.invokevirtual 292, 3) := by decide +kernel
theorem dL_undone_366 : decode cL_undone 366 = .ok (.iload 6, 2) := by decide +kernel
theorem dL_undone_368 : decode cL_undone 368 = .ok (.bipush 12, 2) := by decide +kernel
theorem dL_undone_370 : decode cL_undone 370 = .ok (.iushr, 1) := by decide +kernel
theorem dL_undone_371 : decode cL_undone 371 = .ok (.iconst 5, 1) := by decide +kernel
theorem dL_undone_372 : decode cL_undone 372 = .ok (.irem, 1) := by decide +kernel
theorem dL_undone_373 : decode cL_undone 373 = .ok (.invokevirtual 286, 3) := by decide +kernel
theorem dL_undone_376 : decode cL_undone 376 = .ok (.invokevirtual 308, 3) := by decide +kernel
theorem dL_undone_379 : decode cL_undone 379 = .ok (.invokestatic 385, 3) := by decide +kernel
theorem dL_undone_382 : decode cL_undone 382 = .ok (.istore 7, 2) := by decide +kernel
theorem dL_undone_384 : decode cL_undone 384 = .ok (.iload 7, 2) := by decide +kernel
theorem dL_undone_386 : decode cL_undone 386 = .ok (.ifCond .ge 16, 3) := by decide +kernel
theorem dL_undone_389 : decode cL_undone 389 = .ok (.aload_n 1, 1) := by decide +kernel
theorem dL_undone_390 : decode cL_undone 390 = .ok (.invokestatic 369, 3) := by decide +kernel
theorem dL_undone_393 : decode cL_undone 393 = .ok (.aload_n 2, 1) := by decide +kernel
theorem dL_undone_394 : decode cL_undone 394 = .ok (.iload_n 3, 1) := by decide +kernel
theorem dL_undone_395 : decode cL_undone 395 = .ok (.laload, 1) := by decide +kernel
theorem dL_undone_396 : decode cL_undone 396 = .ok (.lcmp, 1) := by decide +kernel
theorem dL_undone_397 : decode cL_undone 397 = .ok (.ifCond .eq 5, 3) := by decide +kernel
theorem dL_undone_400 : decode cL_undone 400 = .ok (.iconst 0, 1) := by decide +kernel
theorem dL_undone_401 : decode cL_undone 401 = .ok (.ireturn, 1) := by decide +kernel
theorem dL_undone_402 : decode cL_undone 402 = .ok (.iload_n 3, 1) := by decide +kernel
theorem dL_undone_403 : decode cL_undone 403 = .ok (.iload 7, 2) := by decide +kernel
theorem dL_undone_405 : decode cL_undone 405 = .ok (.ifCond .ge 7, 3) := by decide +kernel
theorem dL_undone_408 : decode cL_undone 408 = .ok (.iconst 0, 1) := by decide +kernel
theorem dL_undone_409 : decode cL_undone 409 = .ok (.goto 4, 3) := by decide +kernel
theorem dL_undone_412 : decode cL_undone 412 = .ok (.iconst 1, 1) := by decide +kernel
theorem dL_undone_413 : decode cL_undone 413 = .ok (.iadd, 1) := by decide +kernel
theorem dL_undone_414 : decode cL_undone 414 = .ok (.istore_n 3, 1) := by decide +kernel
theorem dL_undone_415 : decode cL_undone 415 = .ok (.iinc 4 1, 3) := by decide +kernel
theorem dL_undone_418 : decode cL_undone 418 = .ok (.goto (-408), 3) := by decide +kernel
theorem dL_undone_421 : decode cL_undone 421 = .ok (.aload_n 1, 1) := by decide +kernel
theorem dL_undone_422 : decode cL_undone 422 = .ok (.invokevirtual 388, 3) := by decide +kernel
theorem dL_undone_425 : decode cL_undone 425 = .ok (.istore 4, 2) := by decide +kernel
theorem dL_undone_427 : decode cL_undone 427 = .ok (.iload_n 3, 1) := by decide +kernel
theorem dL_undone_428 : decode cL_undone 428 = .ok (.iconst 1, 1) := by decide +kernel
theorem dL_undone_429 : decode cL_undone 429 = .ok (.isub, 1) := by decide +kernel
theorem dL_undone_430 : decode cL_undone 430 = .ok (.istore 5, 2) := by decide +kernel
theorem dL_undone_432 : decode cL_undone 432 = .ok (.iload 5, 2) := by decide +kernel
theorem dL_undone_434 : decode cL_undone 434 = .ok (.ifCond .lt 35, 3) := by decide +kernel
theorem dL_undone_437 : decode cL_undone 437 = .ok (.iinc 4 (-1), 3) := by decide +kernel
theorem dL_undone_440 : decode cL_undone 440 = .ok (.aload_n 1, 1) := by decide +kernel
theorem dL_undone_441 : decode cL_undone 441 = .ok (.invokestatic 391, 3) := by decide +kernel
theorem dL_undone_444 : decode cL_undone 444 = .ok (.iload 4, 2) := by decide +kernel
theorem dL_undone_446 : decode cL_undone 446 = .ok (.if_icmp .ne 15, 3) := by decide +kernel
theorem dL_undone_449 : decode cL_undone 449 = .ok (.aload_n 1, 1) := by decide +kernel
theorem dL_undone_450 : decode cL_undone 450 = .ok (.invokestatic 369, 3) := by decide +kernel
theorem dL_undone_453 : decode cL_undone 453 = .ok (.aload_n 2, 1) := by decide +kernel
theorem dL_undone_454 : decode cL_undone 454 = .ok (.iload 5, 2) := by decide +kernel
theorem dL_undone_456 : decode cL_undone 456 = .ok (.laload, 1) := by decide +kernel
theorem dL_undone_457 : decode cL_undone 457 = .ok (.lcmp, 1) := by decide +kernel
theorem dL_undone_458 : decode cL_undone 458 = .ok (.ifCond .eq 5, 3) := by decide +kernel
theorem dL_undone_461 : decode cL_undone 461 = .ok (.iconst 0, 1) := by decide +kernel
theorem dL_undone_462 : decode cL_undone 462 = .ok (.ireturn, 1) := by decide +kernel
theorem dL_undone_463 : decode cL_undone 463 = .ok (.iinc 5 (-1), 3) := by decide +kernel
theorem dL_undone_466 : decode cL_undone 466 = .ok (.goto (-34), 3) := by decide +kernel
theorem dL_undone_469 : decode cL_undone 469 = .ok (.iconst 1, 1) := by decide +kernel
theorem dL_undone_470 : decode cL_undone 470 = .ok (.ireturn, 1) := by decide +kernel
