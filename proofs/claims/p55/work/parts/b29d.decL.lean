theorem dL_messages_0 : decode cL_messages 0 = .ok (.aload_n 0, 1) := by decide +kernel
theorem dL_messages_1 : decode cL_messages 1 = .ok (.invokevirtual 246, 3) := by decide +kernel
theorem dL_messages_4 : decode cL_messages 4 = .ok (.istore_n 1, 1) := by decide +kernel
theorem dL_messages_5 : decode cL_messages 5 = .ok (.bipush 8, 2) := by decide +kernel
theorem dL_messages_7 : decode cL_messages 7 = .ok (.newarray .int, 2) := by decide +kernel
theorem dL_messages_9 : decode cL_messages 9 = .ok (.astore_n 2, 1) := by decide +kernel
theorem dL_messages_10 : decode cL_messages 10 = .ok (.iconst 0, 1) := by decide +kernel
theorem dL_messages_11 : decode cL_messages 11 = .ok (.istore_n 3, 1) := by decide +kernel
theorem dL_messages_12 : decode cL_messages 12 = .ok (.iload_n 3, 1) := by decide +kernel
theorem dL_messages_13 : decode cL_messages 13 = .ok (.iload_n 1, 1) := by decide +kernel
theorem dL_messages_14 : decode cL_messages 14 = .ok (.if_icmp .ge 322, 3) := by decide +kernel
theorem dL_messages_17 : decode cL_messages 17 = .ok (.aload_n 0, 1) := by decide +kernel
theorem dL_messages_18 : decode cL_messages 18 = .ok (.iload_n 3, 1) := by decide +kernel
theorem dL_messages_19 : decode cL_messages 19 = .ok (.invokestatic 249, 3) := by decide +kernel
theorem dL_messages_22 : decode cL_messages 22 = .ok (.istore 4, 2) := by decide +kernel
theorem dL_messages_24 : decode cL_messages 24 = .ok (.aload_n 0, 1) := by decide +kernel
theorem dL_messages_25 : decode cL_messages 25 = .ok (.iload 4, 2) := by decide +kernel
theorem dL_messages_27 : decode cL_messages 27 = .ok (.invokestatic 252, 3) := by decide +kernel
theorem dL_messages_30 : decode cL_messages 30 = .ok (.istore 5, 2) := by decide +kernel
theorem dL_messages_32 : decode cL_messages 32 = .ok (.aload_n 0, 1) := by decide +kernel
theorem dL_messages_33 : decode cL_messages 33 = .ok (.iload 4, 2) := by decide +kernel
theorem dL_messages_35 : decode cL_messages 35 = .ok (.invokestatic 278, 3) := by decide +kernel
theorem dL_messages_38 : decode cL_messages 38 = .ok (.istore 6, 2) := by decide +kernel
theorem dL_messages_40 : decode cL_messages 40 = .ok (.aload_n 0, 1) := by decide +kernel
theorem dL_messages_41 : decode cL_messages 41 = .ok (.iload 4, 2) := by decide +kernel
theorem dL_messages_43 : decode cL_messages 43 = .ok (.invokestatic 280, 3) := by decide +kernel
theorem dL_messages_46 : decode cL_messages 46 = .ok (.istore 7, 2) := by decide +kernel
theorem dL_messages_48 : decode cL_messages 48 = .ok (.new 283, 3) := by decide +kernel
theorem dL_messages_51 : decode cL_messages 51 = .ok (.dup, 1) := by decide +kernel
theorem dL_messages_52 : decode cL_messages 52 = .ok (.invokespecial 285, 3) := by decide +kernel
theorem dL_messages_55 : decode cL_messages 55 = .ok (.iload 4, 2) := by decide +kernel
theorem dL_messages_57 : decode cL_messages 57 = .ok (.invokevirtual 286, 3) := by decide +kernel
theorem dL_messages_60 : decode cL_messages 60 = .ok (.ldc_w 290, 3) := by decide +kernel
theorem dL_messages_63 : decode cL_messages 63 = .ok (.invokevirtual 292, 3) := by decide +kernel
theorem dL_messages_66 : decode cL_messages 66 = .ok (.aload_n 0, 1) := by decide +kernel
theorem dL_messages_67 : decode cL_messages 67 = .ok (.iload 4, 2) := by decide +kernel
theorem dL_messages_69 : decode cL_messages 69 = .ok (.invokevirtual 81, 3) := by decide +kernel
theorem dL_messages_72 : decode cL_messages 72 = .ok (.invokevirtual 286, 3) := by decide +kernel
theorem dL_messages_75 : decode cL_messages 75 = .ok (.ldc_w 295, 3) := by decide +kernel
theorem dL_messages_78 : decode cL_messages 78 = .ok (.invokevirtual 292, 3) := by decide +kernel
theorem dL_messages_81 : decode cL_messages 81 = .ok (.aload_n 0, 1) := by decide +kernel
theorem dL_messages_82 : decode cL_messages 82 = .ok (.iload 4, 2) := by decide +kernel
theorem dL_messages_84 : decode cL_messages 84 = .ok (.invokevirtual 84, 3) := by decide +kernel
theorem dL_messages_87 : decode cL_messages 87 = .ok (.invokevirtual 286, 3) := by decide +kernel
theorem dL_messages_90 : decode cL_messages 90 = .ok (.ldc_w 297, 3) := by decide +kernel
theorem dL_messages_93 : decode cL_messages 93 = .ok (.invokevirtual 292, 3) := by decide +kernel
theorem dL_messages_96 : decode cL_messages 96 = .ok (.iload 7, 2) := by decide +kernel
theorem dL_messages_98 : decode cL_messages 98 = .ok (.invokevirtual 286, 3) := by decide +kernel
theorem dL_messages_101 : decode cL_messages 101 = .ok (.aload_n 0, 1) := by decide +kernel
theorem dL_messages_102 : decode cL_messages 102 = .ok (.iload 4, 2) := by decide +kernel
theorem dL_messages_104 : decode cL_messages 104 = .ok (.invokevirtual 87, 3) := by decide +kernel
theorem dL_messages_107 : decode cL_messages 107 = .ok (.invokevirtual 299, 3) := by decide +kernel
theorem dL_messages_110 : decode cL_messages 110 = .ok (.ldc_w 302, 3) := by decide +kernel
theorem dL_messages_113 : decode cL_messages 113 = .ok (.iconst 0, 1) := by decide +kernel
theorem dL_messages_114 : decode cL_messages 114 = .ok (.iload 6, 2) := by decide +kernel
theorem dL_messages_116 : decode cL_messages 116 = .ok (.invokevirtual 304, 3) := by decide +kernel
theorem dL_messages_119 : decode cL_messages 119 = .ok (.invokevirtual 292, 3) := by decide +kernel
theorem dL_messages_122 : decode cL_messages 122 = .ok (.invokevirtual 308, 3) := by decide +kernel
theorem dL_messages_125 : decode cL_messages 125 = .ok (.astore 8, 2) := by decide +kernel
theorem dL_messages_127 : decode cL_messages 127 = .ok (.iload_n 3, 1) := by decide +kernel
theorem dL_messages_128 : decode cL_messages 128 = .ok (.ifCond .le 15, 3) := by decide +kernel
theorem dL_messages_131 : decode cL_messages 131 = .ok (.iload 4, 2) := by decide +kernel
theorem dL_messages_133 : decode cL_messages 133 = .ok (.aload_n 0, 1) := by decide +kernel
theorem dL_messages_134 : decode cL_messages 134 = .ok (.iload_n 3, 1) := by decide +kernel
theorem dL_messages_135 : decode cL_messages 135 = .ok (.iconst 1, 1) := by decide +kernel
theorem dL_messages_136 : decode cL_messages 136 = .ok (.isub, 1) := by decide +kernel
theorem dL_messages_137 : decode cL_messages 137 = .ok (.invokestatic 249, 3) := by decide +kernel
theorem dL_messages_140 : decode cL_messages 140 = .ok (.if_icmp .le 40, 3) := by decide +kernel
theorem dL_messages_143 : decode cL_messages 143 = .ok (.iload 7, 2) := by decide +kernel
theorem dL_messages_145 : decode cL_messages 145 = .ok (.bipush 15, 2) := by decide +kernel
theorem dL_messages_147 : decode cL_messages 147 = .ok (.if_icmp .gt 33, 3) := by decide +kernel
theorem dL_messages_150 : decode cL_messages 150 = .ok (.aload_n 0, 1) := by decide +kernel
theorem dL_messages_151 : decode cL_messages 151 = .ok (.aload_n 0, 1) := by decide +kernel
theorem dL_messages_152 : decode cL_messages 152 = .ok (.iload 4, 2) := by decide +kernel
theorem dL_messages_154 : decode cL_messages 154 = .ok (.invokestatic 276, 3) := by decide +kernel
theorem dL_messages_157 : decode cL_messages 157 = .ok (.aload 8, 2) := by decide +kernel
theorem dL_messages_159 : decode cL_messages 159 = .ok (.invokestatic 312, 3) := by decide +kernel
theorem dL_messages_162 : decode cL_messages 162 = .ok (.ifCond .eq 18, 3) := by decide +kernel
theorem dL_messages_165 : decode cL_messages 165 = .ok (.aload_n 0, 1) := by decide +kernel
theorem dL_messages_166 : decode cL_messages 166 = .ok (.iload 4, 2) := by decide +kernel
theorem dL_messages_168 : decode cL_messages 168 = .ok (.invokestatic 254, 3) := by decide +kernel
theorem dL_messages_171 : decode cL_messages 171 = .ok (.aload_n 0, 1) := by decide +kernel
theorem dL_messages_172 : decode cL_messages 172 = .ok (.iload 4, 2) := by decide +kernel
theorem dL_messages_174 : decode cL_messages 174 = .ok (.invokestatic 316, 3) := by decide +kernel
theorem dL_messages_177 : decode cL_messages 177 = .ok (.if_icmp .ne 5, 3) := by decide +kernel
theorem dL_messages_180 : decode cL_messages 180 = .ok (.iconst 0, 1) := by decide +kernel
theorem dL_messages_181 : decode cL_messages 181 = .ok (.ireturn, 1) := by decide +kernel
theorem dL_messages_182 : decode cL_messages 182 = .ok (.iload 5, 2) := by decide +kernel
theorem dL_messages_184 : decode cL_messages 184 = .ok (.bipush 100, 2) := by decide +kernel
theorem dL_messages_186 : decode cL_messages 186 = .ok (.if_icmp .ne 7, 3) := by decide +kernel
theorem dL_messages_189 : decode cL_messages 189 = .ok (.iconst 1, 1) := by decide +kernel
theorem dL_messages_190 : decode cL_messages 190 = .ok (.goto 4, 3) := by decide +kernel
theorem dL_messages_193 : decode cL_messages 193 = .ok (.iconst 0, 1) := by decide +kernel
theorem dL_messages_194 : decode cL_messages 194 = .ok (.aload_n 0, 1) := by decide +kernel
theorem dL_messages_195 : decode cL_messages 195 = .ok (.iload 4, 2) := by decide +kernel
theorem dL_messages_197 : decode cL_messages 197 = .ok (.invokestatic 318, 3) := by decide +kernel
theorem dL_messages_200 : decode cL_messages 200 = .ok (.ifCond .le 7, 3) := by decide +kernel
theorem dL_messages_203 : decode cL_messages 203 = .ok (.iconst 1, 1) := by decide +kernel
theorem dL_messages_204 : decode cL_messages 204 = .ok (.goto 4, 3) := by decide +kernel
theorem dL_messages_207 : decode cL_messages 207 = .ok (.iconst 0, 1) := by decide +kernel
theorem dL_messages_208 : decode cL_messages 208 = .ok (.if_icmp .ne 39, 3) := by decide +kernel
theorem dL_messages_211 : decode cL_messages 211 = .ok (.aload_n 0, 1) := by decide +kernel
theorem dL_messages_212 : decode cL_messages 212 = .ok (.iload 4, 2) := by decide +kernel
theorem dL_messages_214 : decode cL_messages 214 = .ok (.invokestatic 318, 3) := by decide +kernel
theorem dL_messages_217 : decode cL_messages 217 = .ok (.iconst 4, 1) := by decide +kernel
theorem dL_messages_218 : decode cL_messages 218 = .ok (.if_icmp .gt 29, 3) := by decide +kernel
theorem dL_messages_221 : decode cL_messages 221 = .ok (.iload 5, 2) := by decide +kernel
theorem dL_messages_223 : decode cL_messages 223 = .ok (.bipush 108, 2) := by decide +kernel
theorem dL_messages_225 : decode cL_messages 225 = .ok (.if_icmp .ne 7, 3) := by decide +kernel
theorem dL_messages_228 : decode cL_messages 228 = .ok (.iconst 1, 1) := by decide +kernel
theorem dL_messages_229 : decode cL_messages 229 = .ok (.goto 4, 3) := by decide +kernel
theorem dL_messages_232 : decode cL_messages 232 = .ok (.iconst 0, 1) := by decide +kernel
theorem dL_messages_233 : decode cL_messages 233 = .ok (.iload 6, 2) := by decide +kernel
theorem dL_messages_235 : decode cL_messages 235 = .ok (.iconst 3, 1) := by decide +kernel
theorem dL_messages_236 : decode cL_messages 236 = .ok (.if_icmp .ne 7, 3) := by decide +kernel
theorem dL_messages_239 : decode cL_messages 239 = .ok (.iconst 1, 1) := by decide +kernel
theorem dL_messages_240 : decode cL_messages 240 = .ok (.goto 4, 3) := by decide +kernel
theorem dL_messages_243 : decode cL_messages 243 = .ok (.iconst 0, 1) := by decide +kernel
theorem dL_messages_244 : decode cL_messages 244 = .ok (.if_icmp .eq 5, 3) := by decide +kernel
theorem dL_messages_247 : decode cL_messages 247 = .ok (.iconst 0, 1) := by decide +kernel
theorem dL_messages_248 : decode cL_messages 248 = .ok (.ireturn, 1) := by decide +kernel
theorem dL_messages_249 : decode cL_messages 249 = .ok (.aload_n 2, 1) := by decide +kernel
theorem dL_messages_250 : decode cL_messages 250 = .ok (.aload_n 0, 1) := by decide +kernel
theorem dL_messages_251 : decode cL_messages 251 = .ok (.aload_n 0, 1) := by decide +kernel
theorem dL_messages_252 : decode cL_messages 252 = .ok (.iload 4, 2) := by decide +kernel
theorem dL_messages_254 : decode cL_messages 254 = .ok (.invokevirtual 81, 3) := by decide +kernel
theorem dL_messages_257 : decode cL_messages 257 = .ok (.invokevirtual 53, 3) := by decide +kernel
theorem dL_messages_260 : decode cL_messages 260 = .ok (.dup2, 1) := by decide +kernel
theorem dL_messages_261 : decode cL_messages 261 = .ok (.iaload, 1) := by decide +kernel
theorem dL_messages_262 : decode cL_messages 262 = .ok (.iload 5, 2) := by decide +kernel
theorem dL_messages_264 : decode cL_messages 264 = .ok (.bipush 100, 2) := by decide +kernel
theorem dL_messages_266 : decode cL_messages 266 = .ok (.if_icmp .ne 7, 3) := by decide +kernel
theorem dL_messages_269 : decode cL_messages 269 = .ok (.iconst 1, 1) := by decide +kernel
theorem dL_messages_270 : decode cL_messages 270 = .ok (.goto 4, 3) := by decide +kernel
theorem dL_messages_273 : decode cL_messages 273 = .ok (.iconst 0, 1) := by decide +kernel
theorem dL_messages_274 : decode cL_messages 274 = .ok (.iadd, 1) := by decide +kernel
theorem dL_messages_275 : decode cL_messages 275 = .ok (.iastore, 1) := by decide +kernel
theorem dL_messages_276 : decode cL_messages 276 = .ok (.aload_n 0, 1) := by decide +kernel
theorem dL_messages_277 : decode cL_messages 277 = .ok (.iload 4, 2) := by decide +kernel
theorem dL_messages_279 : decode cL_messages 279 = .ok (.invokestatic 321, 3) := by decide +kernel
theorem dL_messages_282 : decode cL_messages 282 = .ok (.istore 9, 2) := by decide +kernel
theorem dL_messages_284 : decode cL_messages 284 = .ok (.iload 5, 2) := by decide +kernel
theorem dL_messages_286 : decode cL_messages 286 = .ok (.bipush 114, 2) := by decide +kernel
theorem dL_messages_288 : decode cL_messages 288 = .ok (.if_icmp .eq 10, 3) := by decide +kernel
theorem dL_messages_291 : decode cL_messages 291 = .ok (.iload 5, 2) := by decide +kernel
theorem dL_messages_293 : decode cL_messages 293 = .ok (.bipush 108, 2) := by decide +kernel
theorem dL_messages_295 : decode cL_messages 295 = .ok (.if_icmp .ne 13, 3) := by decide +kernel
theorem dL_messages_298 : decode cL_messages 298 = .ok (.iload 9, 2) := by decide +kernel
theorem dL_messages_300 : decode cL_messages 300 = .ok (.bipush (-14), 2) := by decide +kernel
theorem dL_messages_302 : decode cL_messages 302 = .ok (.if_icmp .eq 28, 3) := by decide +kernel
theorem dL_messages_305 : decode cL_messages 305 = .ok (.goto 23, 3) := by decide +kernel
theorem dL_messages_308 : decode cL_messages 308 = .ok (.iload 9, 2) := by decide +kernel
theorem dL_messages_310 : decode cL_messages 310 = .ok (.bipush (-15), 2) := by decide +kernel
theorem dL_messages_312 : decode cL_messages 312 = .ok (.if_icmp .eq 18, 3) := by decide +kernel
theorem dL_messages_315 : decode cL_messages 315 = .ok (.iload 9, 2) := by decide +kernel
theorem dL_messages_317 : decode cL_messages 317 = .ok (.iconst 1, 1) := by decide +kernel
theorem dL_messages_318 : decode cL_messages 318 = .ok (.if_icmp .lt 10, 3) := by decide +kernel
theorem dL_messages_321 : decode cL_messages 321 = .ok (.iload 9, 2) := by decide +kernel
theorem dL_messages_323 : decode cL_messages 323 = .ok (.bipush 60, 2) := by decide +kernel
theorem dL_messages_325 : decode cL_messages 325 = .ok (.if_icmp .le 5, 3) := by decide +kernel
theorem dL_messages_328 : decode cL_messages 328 = .ok (.iconst 0, 1) := by decide +kernel
theorem dL_messages_329 : decode cL_messages 329 = .ok (.ireturn, 1) := by decide +kernel
theorem dL_messages_330 : decode cL_messages 330 = .ok (.iinc 3 1, 3) := by decide +kernel
theorem dL_messages_333 : decode cL_messages 333 = .ok (.goto (-321), 3) := by decide +kernel
theorem dL_messages_336 : decode cL_messages 336 = .ok (.iconst 1, 1) := by decide +kernel
theorem dL_messages_337 : decode cL_messages 337 = .ok (.istore_n 3, 1) := by decide +kernel
theorem dL_messages_338 : decode cL_messages 338 = .ok (.aload_n 2, 1) := by decide +kernel
theorem dL_messages_339 : decode cL_messages 339 = .ok (.astore 4, 2) := by decide +kernel
theorem dL_messages_341 : decode cL_messages 341 = .ok (.aload 4, 2) := by decide +kernel
theorem dL_messages_343 : decode cL_messages 343 = .ok (.arraylength, 1) := by decide +kernel
theorem dL_messages_344 : decode cL_messages 344 = .ok (.istore 5, 2) := by decide +kernel
theorem dL_messages_346 : decode cL_messages 346 = .ok (.iconst 0, 1) := by decide +kernel
theorem dL_messages_347 : decode cL_messages 347 = .ok (.istore 6, 2) := by decide +kernel
theorem dL_messages_349 : decode cL_messages 349 = .ok (.iload 6, 2) := by decide +kernel
theorem dL_messages_351 : decode cL_messages 351 = .ok (.iload 5, 2) := by decide +kernel
theorem dL_messages_353 : decode cL_messages 353 = .ok (.if_icmp .ge 32, 3) := by decide +kernel
theorem dL_messages_356 : decode cL_messages 356 = .ok (.aload 4, 2) := by decide +kernel
theorem dL_messages_358 : decode cL_messages 358 = .ok (.iload 6, 2) := by decide +kernel
theorem dL_messages_360 : decode cL_messages 360 = .ok (.iaload, 1) := by decide +kernel
theorem dL_messages_361 : decode cL_messages 361 = .ok (.istore 7, 2) := by decide +kernel
theorem dL_messages_363 : decode cL_messages 363 = .ok (.iload_n 3, 1) := by decide +kernel
theorem dL_messages_364 : decode cL_messages 364 = .ok (.ifCond .eq 13, 3) := by decide +kernel
theorem dL_messages_367 : decode cL_messages 367 = .ok (.iload 7, 2) := by decide +kernel
theorem dL_messages_369 : decode cL_messages 369 = .ok (.iconst 2, 1) := by decide +kernel
theorem dL_messages_370 : decode cL_messages 370 = .ok (.if_icmp .ge 7, 3) := by decide +kernel
theorem dL_messages_373 : decode cL_messages 373 = .ok (.iconst 1, 1) := by decide +kernel
theorem dL_messages_374 : decode cL_messages 374 = .ok (.goto 4, 3) := by decide +kernel
theorem dL_messages_377 : decode cL_messages 377 = .ok (.iconst 0, 1) := by decide +kernel
theorem dL_messages_378 : decode cL_messages 378 = .ok (.istore_n 3, 1) := by decide +kernel
theorem dL_messages_379 : decode cL_messages 379 = .ok (.iinc 6 1, 3) := by decide +kernel
theorem dL_messages_382 : decode cL_messages 382 = .ok (.goto (-33), 3) := by decide +kernel
theorem dL_messages_385 : decode cL_messages 385 = .ok (.aload_n 0, 1) := by decide +kernel
theorem dL_messages_386 : decode cL_messages 386 = .ok (.invokevirtual 268, 3) := by decide +kernel
theorem dL_messages_389 : decode cL_messages 389 = .ok (.aload_n 0, 1) := by decide +kernel
theorem dL_messages_390 : decode cL_messages 390 = .ok (.invokevirtual 324, 3) := by decide +kernel
theorem dL_messages_393 : decode cL_messages 393 = .ok (.iadd, 1) := by decide +kernel
theorem dL_messages_394 : decode cL_messages 394 = .ok (.istore 4, 2) := by decide +kernel
theorem dL_messages_396 : decode cL_messages 396 = .ok (.iload 4, 2) := by decide +kernel
theorem dL_messages_398 : decode cL_messages 398 = .ok (.ifCond .eq 20, 3) := by decide +kernel
theorem dL_messages_401 : decode cL_messages 401 = .ok (.aload_n 0, 1) := by decide +kernel
theorem dL_messages_402 : decode cL_messages 402 = .ok (.invokevirtual 327, 3) := by decide +kernel
theorem dL_messages_405 : decode cL_messages 405 = .ok (.aload_n 0, 1) := by decide +kernel
theorem dL_messages_406 : decode cL_messages 406 = .ok (.invokevirtual 268, 3) := by decide +kernel
theorem dL_messages_409 : decode cL_messages 409 = .ok (.i2d, 1) := by decide +kernel
theorem dL_messages_410 : decode cL_messages 410 = .ok (.iload 4, 2) := by decide +kernel
theorem dL_messages_412 : decode cL_messages 412 = .ok (.i2d, 1) := by decide +kernel
theorem dL_messages_413 : decode cL_messages 413 = .ok (.ddiv, 1) := by decide +kernel
theorem dL_messages_414 : decode cL_messages 414 = .ok (.dcmp .l, 1) := by decide +kernel
theorem dL_messages_415 : decode cL_messages 415 = .ok (.ifCond .ne 7, 3) := by decide +kernel
theorem dL_messages_418 : decode cL_messages 418 = .ok (.iconst 1, 1) := by decide +kernel
theorem dL_messages_419 : decode cL_messages 419 = .ok (.goto 4, 3) := by decide +kernel
theorem dL_messages_422 : decode cL_messages 422 = .ok (.iconst 0, 1) := by decide +kernel
theorem dL_messages_423 : decode cL_messages 423 = .ok (.istore 5, 2) := by decide +kernel
theorem dL_messages_425 : decode cL_messages 425 = .ok (.iload_n 3, 1) := by decide +kernel
theorem dL_messages_426 : decode cL_messages 426 = .ok (.ifCond .eq 115, 3) := by decide +kernel
theorem dL_messages_429 : decode cL_messages 429 = .ok (.iload 5, 2) := by decide +kernel
theorem dL_messages_431 : decode cL_messages 431 = .ok (.ifCond .eq 110, 3) := by decide +kernel
theorem dL_messages_434 : decode cL_messages 434 = .ok (.aload_n 0, 1) := by decide +kernel
theorem dL_messages_435 : decode cL_messages 435 = .ok (.invokevirtual 331, 3) := by decide +kernel
theorem dL_messages_438 : decode cL_messages 438 = .ok (.ifCond .eq 103, 3) := by decide +kernel
theorem dL_messages_441 : decode cL_messages 441 = .ok (.aload_n 0, 1) := by decide +kernel
theorem dL_messages_442 : decode cL_messages 442 = .ok (.iload_n 1, 1) := by decide +kernel
theorem dL_messages_443 : decode cL_messages 443 = .ok (.invokestatic 249, 3) := by decide +kernel
theorem dL_messages_446 : decode cL_messages 446 = .ok (.bipush (-11), 2) := by decide +kernel
theorem dL_messages_448 : decode cL_messages 448 = .ok (.if_icmp .ne 93, 3) := by decide +kernel
theorem dL_messages_451 : decode cL_messages 451 = .ok (.aload_n 0, 1) := by decide +kernel
theorem dL_messages_452 : decode cL_messages 452 = .ok (.iconst (-1), 1) := by decide +kernel
theorem dL_messages_453 : decode cL_messages 453 = .ok (.invokestatic 249, 3) := by decide +kernel
theorem dL_messages_456 : decode cL_messages 456 = .ok (.bipush (-11), 2) := by decide +kernel
theorem dL_messages_458 : decode cL_messages 458 = .ok (.if_icmp .ne 83, 3) := by decide +kernel
theorem dL_messages_461 : decode cL_messages 461 = .ok (.aload_n 0, 1) := by decide +kernel
theorem dL_messages_462 : decode cL_messages 462 = .ok (.bipush 99, 2) := by decide +kernel
theorem dL_messages_464 : decode cL_messages 464 = .ok (.invokestatic 254, 3) := by decide +kernel
theorem dL_messages_467 : decode cL_messages 467 = .ok (.bipush (-13), 2) := by decide +kernel
theorem dL_messages_469 : decode cL_messages 469 = .ok (.if_icmp .ne 72, 3) := by decide +kernel
theorem dL_messages_472 : decode cL_messages 472 = .ok (.aload_n 0, 1) := by decide +kernel
theorem dL_messages_473 : decode cL_messages 473 = .ok (.iconst (-1), 1) := by decide +kernel
theorem dL_messages_474 : decode cL_messages 474 = .ok (.invokestatic 316, 3) := by decide +kernel
theorem dL_messages_477 : decode cL_messages 477 = .ok (.bipush (-13), 2) := by decide +kernel
theorem dL_messages_479 : decode cL_messages 479 = .ok (.if_icmp .ne 62, 3) := by decide +kernel
theorem dL_messages_482 : decode cL_messages 482 = .ok (.aload_n 0, 1) := by decide +kernel
theorem dL_messages_483 : decode cL_messages 483 = .ok (.bipush 99, 2) := by decide +kernel
theorem dL_messages_485 : decode cL_messages 485 = .ok (.invokestatic 252, 3) := by decide +kernel
theorem dL_messages_488 : decode cL_messages 488 = .ok (.bipush (-13), 2) := by decide +kernel
theorem dL_messages_490 : decode cL_messages 490 = .ok (.if_icmp .ne 51, 3) := by decide +kernel
theorem dL_messages_493 : decode cL_messages 493 = .ok (.aload_n 0, 1) := by decide +kernel
theorem dL_messages_494 : decode cL_messages 494 = .ok (.bipush 99, 2) := by decide +kernel
theorem dL_messages_496 : decode cL_messages 496 = .ok (.invokestatic 278, 3) := by decide +kernel
theorem dL_messages_499 : decode cL_messages 499 = .ok (.bipush (-13), 2) := by decide +kernel
theorem dL_messages_501 : decode cL_messages 501 = .ok (.if_icmp .ne 40, 3) := by decide +kernel
theorem dL_messages_504 : decode cL_messages 504 = .ok (.aload_n 0, 1) := by decide +kernel
theorem dL_messages_505 : decode cL_messages 505 = .ok (.bipush 99, 2) := by decide +kernel
theorem dL_messages_507 : decode cL_messages 507 = .ok (.invokestatic 318, 3) := by decide +kernel
theorem dL_messages_510 : decode cL_messages 510 = .ok (.bipush (-13), 2) := by decide +kernel
theorem dL_messages_512 : decode cL_messages 512 = .ok (.if_icmp .ne 29, 3) := by decide +kernel
theorem dL_messages_515 : decode cL_messages 515 = .ok (.aload_n 0, 1) := by decide +kernel
theorem dL_messages_516 : decode cL_messages 516 = .ok (.bipush 99, 2) := by decide +kernel
theorem dL_messages_518 : decode cL_messages 518 = .ok (.invokestatic 321, 3) := by decide +kernel
theorem dL_messages_521 : decode cL_messages 521 = .ok (.bipush (-13), 2) := by decide +kernel
theorem dL_messages_523 : decode cL_messages 523 = .ok (.if_icmp .ne 18, 3) := by decide +kernel
theorem dL_messages_526 : decode cL_messages 526 = .ok (.aload_n 0, 1) := by decide +kernel
theorem dL_messages_527 : decode cL_messages 527 = .ok (.bipush 99, 2) := by decide +kernel
theorem dL_messages_529 : decode cL_messages 529 = .ok (.invokestatic 276, 3) := by decide +kernel
theorem dL_messages_532 : decode cL_messages 532 = .ok (.bipush (-13), 2) := by decide +kernel
theorem dL_messages_534 : decode cL_messages 534 = .ok (.if_icmp .ne 7, 3) := by decide +kernel
theorem dL_messages_537 : decode cL_messages 537 = .ok (.iconst 1, 1) := by decide +kernel
theorem dL_messages_538 : decode cL_messages 538 = .ok (.goto 4, 3) := by decide +kernel
theorem dL_messages_541 : decode cL_messages 541 = .ok (.iconst 0, 1) := by decide +kernel
theorem dL_messages_542 : decode cL_messages 542 = .ok (.ireturn, 1) := by decide +kernel
