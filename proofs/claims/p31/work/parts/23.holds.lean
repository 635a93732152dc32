theorem dL_holds_0 : decode cL_holds 0 = .ok (.iconst 0, 1) := by decide +kernel
theorem dL_holds_1 : decode cL_holds 1 = .ok (.istore_n 3, 1) := by decide +kernel
theorem dL_holds_2 : decode cL_holds 2 = .ok (.iconst 0, 1) := by decide +kernel
theorem dL_holds_3 : decode cL_holds 3 = .ok (.istore 4, 2) := by decide +kernel
theorem dL_holds_5 : decode cL_holds 5 = .ok (.aload_n 0, 1) := by decide +kernel
theorem dL_holds_6 : decode cL_holds 6 = .ok (.invokevirtual 154, 3) := by decide +kernel
theorem dL_holds_9 : decode cL_holds 9 = .ok (.aload_n 0, 1) := by decide +kernel
theorem dL_holds_10 : decode cL_holds 10 = .ok (.invokevirtual 157, 3) := by decide +kernel
theorem dL_holds_13 : decode cL_holds 13 = .ok (.aload_n 0, 1) := by decide +kernel
theorem dL_holds_14 : decode cL_holds 14 = .ok (.invokevirtual 160, 3) := by decide +kernel
theorem dL_holds_17 : decode cL_holds 17 = .ok (.iadd, 1) := by decide +kernel
theorem dL_holds_18 : decode cL_holds 18 = .ok (.aload_n 0, 1) := by decide +kernel
theorem dL_holds_19 : decode cL_holds 19 = .ok (.invokevirtual 163, 3) := by decide +kernel
theorem dL_holds_22 : decode cL_holds 22 = .ok (.iadd, 1) := by decide +kernel
theorem dL_holds_23 : decode cL_holds 23 = .ok (.aload_n 0, 1) := by decide +kernel
theorem dL_holds_24 : decode cL_holds 24 = .ok (.invokevirtual 166, 3) := by decide +kernel
theorem dL_holds_27 : decode cL_holds 27 = .ok (.iadd, 1) := by decide +kernel
theorem dL_holds_28 : decode cL_holds 28 = .ok (.if_icmp .ne 7, 3) := by decide +kernel
theorem dL_holds_31 : decode cL_holds 31 = .ok (.iconst 1, 1) := by decide +kernel
theorem dL_holds_32 : decode cL_holds 32 = .ok (.goto 4, 3) := by decide +kernel
theorem dL_holds_35 : decode cL_holds 35 = .ok (.iconst 0, 1) := by decide +kernel
theorem dL_holds_36 : decode cL_holds 36 = .ok (.istore 5, 2) := by decide +kernel
theorem dL_holds_38 : decode cL_holds 38 = .ok (.iconst 0, 1) := by decide +kernel
theorem dL_holds_39 : decode cL_holds 39 = .ok (.istore 6, 2) := by decide +kernel
theorem dL_holds_41 : decode cL_holds 41 = .ok (.iload 6, 2) := by decide +kernel
theorem dL_holds_43 : decode cL_holds 43 = .ok (.aload_n 0, 1) := by decide +kernel
theorem dL_holds_44 : decode cL_holds 44 = .ok (.invokevirtual 90, 3) := by decide +kernel
theorem dL_holds_47 : decode cL_holds 47 = .ok (.if_icmp .ge 253, 3) := by decide +kernel
theorem dL_holds_50 : decode cL_holds 50 = .ok (.iload 5, 2) := by decide +kernel
theorem dL_holds_52 : decode cL_holds 52 = .ok (.ifCond .eq 248, 3) := by decide +kernel
theorem dL_holds_55 : decode cL_holds 55 = .ok (.iconst 0, 1) := by decide +kernel
theorem dL_holds_56 : decode cL_holds 56 = .ok (.istore 7, 2) := by decide +kernel
theorem dL_holds_58 : decode cL_holds 58 = .ok (.iconst 0, 1) := by decide +kernel
theorem dL_holds_59 : decode cL_holds 59 = .ok (.istore 8, 2) := by decide +kernel
theorem dL_holds_61 : decode cL_holds 61 = .ok (.iload 8, 2) := by decide +kernel
theorem dL_holds_63 : decode cL_holds 63 = .ok (.aload_n 0, 1) := by decide +kernel
theorem dL_holds_64 : decode cL_holds 64 = .ok (.invokevirtual 86, 3) := by decide +kernel
theorem dL_holds_67 : decode cL_holds 67 = .ok (.if_icmp .ge 70, 3) := by decide +kernel
theorem dL_holds_70 : decode cL_holds 70 = .ok (.aload_n 0, 1) := by decide +kernel
theorem dL_holds_71 : decode cL_holds 71 = .ok (.iload 8, 2) := by decide +kernel
theorem dL_holds_73 : decode cL_holds 73 = .ok (.iload 6, 2) := by decide +kernel
theorem dL_holds_75 : decode cL_holds 75 = .ok (.invokestatic 144, 3) := by decide +kernel
theorem dL_holds_78 : decode cL_holds 78 = .ok (.istore 9, 2) := by decide +kernel
theorem dL_holds_80 : decode cL_holds 80 = .ok (.iload 7, 2) := by decide +kernel
theorem dL_holds_82 : decode cL_holds 82 = .ok (.iload 9, 2) := by decide +kernel
theorem dL_holds_84 : decode cL_holds 84 = .ok (.iadd, 1) := by decide +kernel
theorem dL_holds_85 : decode cL_holds 85 = .ok (.istore 7, 2) := by decide +kernel
theorem dL_holds_87 : decode cL_holds 87 = .ok (.iload 5, 2) := by decide +kernel
theorem dL_holds_89 : decode cL_holds 89 = .ok (.ifCond .eq 39, 3) := by decide +kernel
theorem dL_holds_92 : decode cL_holds 92 = .ok (.iload 9, 2) := by decide +kernel
theorem dL_holds_94 : decode cL_holds 94 = .ok (.ifCond .lt 34, 3) := by decide +kernel
theorem dL_holds_97 : decode cL_holds 97 = .ok (.iload 9, 2) := by decide +kernel
theorem dL_holds_99 : decode cL_holds 99 = .ok (.ifCond .eq 25, 3) := by decide +kernel
theorem dL_holds_102 : decode cL_holds 102 = .ok (.aload_n 0, 1) := by decide +kernel
theorem dL_holds_103 : decode cL_holds 103 = .ok (.iload 8, 2) := by decide +kernel
theorem dL_holds_105 : decode cL_holds 105 = .ok (.invokestatic 141, 3) := by decide +kernel
theorem dL_holds_108 : decode cL_holds 108 = .ok (.aload_n 2, 1) := by decide +kernel
theorem dL_holds_109 : decode cL_holds 109 = .ok (.iload 6, 2) := by decide +kernel
theorem dL_holds_111 : decode cL_holds 111 = .ok (.iaload, 1) := by decide +kernel
theorem dL_holds_112 : decode cL_holds 112 = .ok (.if_icmp .ne 16, 3) := by decide +kernel
theorem dL_holds_115 : decode cL_holds 115 = .ok (.aload_n 0, 1) := by decide +kernel
theorem dL_holds_116 : decode cL_holds 116 = .ok (.iload 8, 2) := by decide +kernel
theorem dL_holds_118 : decode cL_holds 118 = .ok (.invokestatic 148, 3) := by decide +kernel
theorem dL_holds_121 : decode cL_holds 121 = .ok (.ifCond .ne 7, 3) := by decide +kernel
theorem dL_holds_124 : decode cL_holds 124 = .ok (.iconst 1, 1) := by decide +kernel
theorem dL_holds_125 : decode cL_holds 125 = .ok (.goto 4, 3) := by decide +kernel
theorem dL_holds_128 : decode cL_holds 128 = .ok (.iconst 0, 1) := by decide +kernel
theorem dL_holds_129 : decode cL_holds 129 = .ok (.istore 5, 2) := by decide +kernel
theorem dL_holds_131 : decode cL_holds 131 = .ok (.iinc 8 1, 3) := by decide +kernel
theorem dL_holds_134 : decode cL_holds 134 = .ok (.goto (-73), 3) := by decide +kernel
theorem dL_holds_137 : decode cL_holds 137 = .ok (.iload_n 3, 1) := by decide +kernel
theorem dL_holds_138 : decode cL_holds 138 = .ok (.iload 7, 2) := by decide +kernel
theorem dL_holds_140 : decode cL_holds 140 = .ok (.iadd, 1) := by decide +kernel
theorem dL_holds_141 : decode cL_holds 141 = .ok (.istore_n 3, 1) := by decide +kernel
theorem dL_holds_142 : decode cL_holds 142 = .ok (.iload 5, 2) := by decide +kernel
theorem dL_holds_144 : decode cL_holds 144 = .ok (.ifCond .eq 147, 3) := by decide +kernel
theorem dL_holds_147 : decode cL_holds 147 = .ok (.iload 7, 2) := by decide +kernel
theorem dL_holds_149 : decode cL_holds 149 = .ok (.aload_n 0, 1) := by decide +kernel
theorem dL_holds_150 : decode cL_holds 150 = .ok (.iload 6, 2) := by decide +kernel
theorem dL_holds_152 : decode cL_holds 152 = .ok (.invokestatic 128, 3) := by decide +kernel
theorem dL_holds_155 : decode cL_holds 155 = .ok (.if_icmp .ne 136, 3) := by decide +kernel
theorem dL_holds_158 : decode cL_holds 158 = .ok (.aload_n 0, 1) := by decide +kernel
theorem dL_holds_159 : decode cL_holds 159 = .ok (.iload 6, 2) := by decide +kernel
theorem dL_holds_161 : decode cL_holds 161 = .ok (.invokestatic 124, 3) := by decide +kernel
theorem dL_holds_164 : decode cL_holds 164 = .ok (.ifCond .lt 127, 3) := by decide +kernel
theorem dL_holds_167 : decode cL_holds 167 = .ok (.aload_n 0, 1) := by decide +kernel
theorem dL_holds_168 : decode cL_holds 168 = .ok (.iload 6, 2) := by decide +kernel
theorem dL_holds_170 : decode cL_holds 170 = .ok (.invokestatic 130, 3) := by decide +kernel
theorem dL_holds_173 : decode cL_holds 173 = .ok (.ifCond .lt 118, 3) := by decide +kernel
theorem dL_holds_176 : decode cL_holds 176 = .ok (.aload_n 0, 1) := by decide +kernel
theorem dL_holds_177 : decode cL_holds 177 = .ok (.iload 6, 2) := by decide +kernel
theorem dL_holds_179 : decode cL_holds 179 = .ok (.invokestatic 132, 3) := by decide +kernel
theorem dL_holds_182 : decode cL_holds 182 = .ok (.ifCond .lt 109, 3) := by decide +kernel
theorem dL_holds_185 : decode cL_holds 185 = .ok (.aload_n 0, 1) := by decide +kernel
theorem dL_holds_186 : decode cL_holds 186 = .ok (.iload 6, 2) := by decide +kernel
theorem dL_holds_188 : decode cL_holds 188 = .ok (.invokestatic 134, 3) := by decide +kernel
theorem dL_holds_191 : decode cL_holds 191 = .ok (.ifCond .lt 100, 3) := by decide +kernel
theorem dL_holds_194 : decode cL_holds 194 = .ok (.aload_n 0, 1) := by decide +kernel
theorem dL_holds_195 : decode cL_holds 195 = .ok (.iload 6, 2) := by decide +kernel
theorem dL_holds_197 : decode cL_holds 197 = .ok (.invokestatic 124, 3) := by decide +kernel
theorem dL_holds_200 : decode cL_holds 200 = .ok (.aload_n 0, 1) := by decide +kernel
theorem dL_holds_201 : decode cL_holds 201 = .ok (.iload 6, 2) := by decide +kernel
theorem dL_holds_203 : decode cL_holds 203 = .ok (.invokestatic 128, 3) := by decide +kernel
theorem dL_holds_206 : decode cL_holds 206 = .ok (.iadd, 1) := by decide +kernel
theorem dL_holds_207 : decode cL_holds 207 = .ok (.aload_n 0, 1) := by decide +kernel
theorem dL_holds_208 : decode cL_holds 208 = .ok (.iload 6, 2) := by decide +kernel
theorem dL_holds_210 : decode cL_holds 210 = .ok (.invokestatic 130, 3) := by decide +kernel
theorem dL_holds_213 : decode cL_holds 213 = .ok (.iadd, 1) := by decide +kernel
theorem dL_holds_214 : decode cL_holds 214 = .ok (.aload_n 0, 1) := by decide +kernel
theorem dL_holds_215 : decode cL_holds 215 = .ok (.iload 6, 2) := by decide +kernel
theorem dL_holds_217 : decode cL_holds 217 = .ok (.invokestatic 132, 3) := by decide +kernel
theorem dL_holds_220 : decode cL_holds 220 = .ok (.iadd, 1) := by decide +kernel
theorem dL_holds_221 : decode cL_holds 221 = .ok (.aload_n 0, 1) := by decide +kernel
theorem dL_holds_222 : decode cL_holds 222 = .ok (.iload 6, 2) := by decide +kernel
theorem dL_holds_224 : decode cL_holds 224 = .ok (.invokestatic 134, 3) := by decide +kernel
theorem dL_holds_227 : decode cL_holds 227 = .ok (.iadd, 1) := by decide +kernel
theorem dL_holds_228 : decode cL_holds 228 = .ok (.aload_n 1, 1) := by decide +kernel
theorem dL_holds_229 : decode cL_holds 229 = .ok (.iload 6, 2) := by decide +kernel
theorem dL_holds_231 : decode cL_holds 231 = .ok (.iaload, 1) := by decide +kernel
theorem dL_holds_232 : decode cL_holds 232 = .ok (.if_icmp .ne 59, 3) := by decide +kernel
theorem dL_holds_235 : decode cL_holds 235 = .ok (.aload_n 0, 1) := by decide +kernel
theorem dL_holds_236 : decode cL_holds 236 = .ok (.iload 6, 2) := by decide +kernel
theorem dL_holds_238 : decode cL_holds 238 = .ok (.invokestatic 126, 3) := by decide +kernel
theorem dL_holds_241 : decode cL_holds 241 = .ok (.ifCond .lt 50, 3) := by decide +kernel
theorem dL_holds_244 : decode cL_holds 244 = .ok (.aload_n 0, 1) := by decide +kernel
theorem dL_holds_245 : decode cL_holds 245 = .ok (.iload 6, 2) := by decide +kernel
theorem dL_holds_247 : decode cL_holds 247 = .ok (.invokestatic 126, 3) := by decide +kernel
theorem dL_holds_250 : decode cL_holds 250 = .ok (.aload_n 0, 1) := by decide +kernel
theorem dL_holds_251 : decode cL_holds 251 = .ok (.iload 6, 2) := by decide +kernel
theorem dL_holds_253 : decode cL_holds 253 = .ok (.invokestatic 124, 3) := by decide +kernel
theorem dL_holds_256 : decode cL_holds 256 = .ok (.if_icmp .gt 35, 3) := by decide +kernel
theorem dL_holds_259 : decode cL_holds 259 = .ok (.aload_n 0, 1) := by decide +kernel
theorem dL_holds_260 : decode cL_holds 260 = .ok (.iload 6, 2) := by decide +kernel
theorem dL_holds_262 : decode cL_holds 262 = .ok (.invokestatic 124, 3) := by decide +kernel
theorem dL_holds_265 : decode cL_holds 265 = .ok (.aload_n 1, 1) := by decide +kernel
theorem dL_holds_266 : decode cL_holds 266 = .ok (.iload 6, 2) := by decide +kernel
theorem dL_holds_268 : decode cL_holds 268 = .ok (.iaload, 1) := by decide +kernel
theorem dL_holds_269 : decode cL_holds 269 = .ok (.if_icmp .eq 18, 3) := by decide +kernel
theorem dL_holds_272 : decode cL_holds 272 = .ok (.aload_n 0, 1) := by decide +kernel
theorem dL_holds_273 : decode cL_holds 273 = .ok (.iload 6, 2) := by decide +kernel
theorem dL_holds_275 : decode cL_holds 275 = .ok (.invokestatic 126, 3) := by decide +kernel
theorem dL_holds_278 : decode cL_holds 278 = .ok (.aload_n 0, 1) := by decide +kernel
theorem dL_holds_279 : decode cL_holds 279 = .ok (.iload 6, 2) := by decide +kernel
theorem dL_holds_281 : decode cL_holds 281 = .ok (.invokestatic 124, 3) := by decide +kernel
theorem dL_holds_284 : decode cL_holds 284 = .ok (.if_icmp .ne 7, 3) := by decide +kernel
theorem dL_holds_287 : decode cL_holds 287 = .ok (.iconst 1, 1) := by decide +kernel
theorem dL_holds_288 : decode cL_holds 288 = .ok (.goto 4, 3) := by decide +kernel
theorem dL_holds_291 : decode cL_holds 291 = .ok (.iconst 0, 1) := by decide +kernel
theorem dL_holds_292 : decode cL_holds 292 = .ok (.istore 5, 2) := by decide +kernel
theorem dL_holds_294 : decode cL_holds 294 = .ok (.iinc 6 1, 3) := by decide +kernel
theorem dL_holds_297 : decode cL_holds 297 = .ok (.goto (-256), 3) := by decide +kernel
theorem dL_holds_300 : decode cL_holds 300 = .ok (.iconst 0, 1) := by decide +kernel
theorem dL_holds_301 : decode cL_holds 301 = .ok (.istore 6, 2) := by decide +kernel
theorem dL_holds_303 : decode cL_holds 303 = .ok (.iload 6, 2) := by decide +kernel
theorem dL_holds_305 : decode cL_holds 305 = .ok (.aload_n 0, 1) := by decide +kernel
theorem dL_holds_306 : decode cL_holds 306 = .ok (.invokevirtual 86, 3) := by decide +kernel
theorem dL_holds_309 : decode cL_holds 309 = .ok (.if_icmp .ge 59, 3) := by decide +kernel
theorem dL_holds_312 : decode cL_holds 312 = .ok (.iload 5, 2) := by decide +kernel
theorem dL_holds_314 : decode cL_holds 314 = .ok (.ifCond .eq 54, 3) := by decide +kernel
theorem dL_holds_317 : decode cL_holds 317 = .ok (.iload 4, 2) := by decide +kernel
theorem dL_holds_319 : decode cL_holds 319 = .ok (.aload_n 0, 1) := by decide +kernel
theorem dL_holds_320 : decode cL_holds 320 = .ok (.iload 6, 2) := by decide +kernel
theorem dL_holds_322 : decode cL_holds 322 = .ok (.invokestatic 146, 3) := by decide +kernel
theorem dL_holds_325 : decode cL_holds 325 = .ok (.iadd, 1) := by decide +kernel
theorem dL_holds_326 : decode cL_holds 326 = .ok (.istore 4, 2) := by decide +kernel
theorem dL_holds_328 : decode cL_holds 328 = .ok (.aload_n 0, 1) := by decide +kernel
theorem dL_holds_329 : decode cL_holds 329 = .ok (.iload 6, 2) := by decide +kernel
theorem dL_holds_331 : decode cL_holds 331 = .ok (.invokestatic 146, 3) := by decide +kernel
theorem dL_holds_334 : decode cL_holds 334 = .ok (.ifCond .lt 25, 3) := by decide +kernel
theorem dL_holds_337 : decode cL_holds 337 = .ok (.aload_n 0, 1) := by decide +kernel
theorem dL_holds_338 : decode cL_holds 338 = .ok (.iload 6, 2) := by decide +kernel
theorem dL_holds_340 : decode cL_holds 340 = .ok (.invokestatic 148, 3) := by decide +kernel
theorem dL_holds_343 : decode cL_holds 343 = .ok (.ifCond .eq 12, 3) := by decide +kernel
theorem dL_holds_346 : decode cL_holds 346 = .ok (.aload_n 0, 1) := by decide +kernel
theorem dL_holds_347 : decode cL_holds 347 = .ok (.iload 6, 2) := by decide +kernel
theorem dL_holds_349 : decode cL_holds 349 = .ok (.invokestatic 146, 3) := by decide +kernel
theorem dL_holds_352 : decode cL_holds 352 = .ok (.ifCond .ne 7, 3) := by decide +kernel
theorem dL_holds_355 : decode cL_holds 355 = .ok (.iconst 1, 1) := by decide +kernel
theorem dL_holds_356 : decode cL_holds 356 = .ok (.goto 4, 3) := by decide +kernel
theorem dL_holds_359 : decode cL_holds 359 = .ok (.iconst 0, 1) := by decide +kernel
theorem dL_holds_360 : decode cL_holds 360 = .ok (.istore 5, 2) := by decide +kernel
theorem dL_holds_362 : decode cL_holds 362 = .ok (.iinc 6 1, 3) := by decide +kernel
theorem dL_holds_365 : decode cL_holds 365 = .ok (.goto (-62), 3) := by decide +kernel
theorem dL_holds_368 : decode cL_holds 368 = .ok (.iconst 0, 1) := by decide +kernel
theorem dL_holds_369 : decode cL_holds 369 = .ok (.istore 6, 2) := by decide +kernel
theorem dL_holds_371 : decode cL_holds 371 = .ok (.iload 6, 2) := by decide +kernel
theorem dL_holds_373 : decode cL_holds 373 = .ok (.iconst 2, 1) := by decide +kernel
theorem dL_holds_374 : decode cL_holds 374 = .ok (.if_icmp .ge 77, 3) := by decide +kernel
theorem dL_holds_377 : decode cL_holds 377 = .ok (.iload 5, 2) := by decide +kernel
theorem dL_holds_379 : decode cL_holds 379 = .ok (.ifCond .eq 72, 3) := by decide +kernel
theorem dL_holds_382 : decode cL_holds 382 = .ok (.iconst 0, 1) := by decide +kernel
theorem dL_holds_383 : decode cL_holds 383 = .ok (.istore 7, 2) := by decide +kernel
theorem dL_holds_385 : decode cL_holds 385 = .ok (.iconst 0, 1) := by decide +kernel
theorem dL_holds_386 : decode cL_holds 386 = .ok (.istore 8, 2) := by decide +kernel
theorem dL_holds_388 : decode cL_holds 388 = .ok (.iload 8, 2) := by decide +kernel
theorem dL_holds_390 : decode cL_holds 390 = .ok (.aload_n 0, 1) := by decide +kernel
theorem dL_holds_391 : decode cL_holds 391 = .ok (.invokevirtual 90, 3) := by decide +kernel
theorem dL_holds_394 : decode cL_holds 394 = .ok (.if_icmp .ge 33, 3) := by decide +kernel
theorem dL_holds_397 : decode cL_holds 397 = .ok (.iload 7, 2) := by decide +kernel
theorem dL_holds_399 : decode cL_holds 399 = .ok (.aload_n 2, 1) := by decide +kernel
theorem dL_holds_400 : decode cL_holds 400 = .ok (.iload 8, 2) := by decide +kernel
theorem dL_holds_402 : decode cL_holds 402 = .ok (.iaload, 1) := by decide +kernel
theorem dL_holds_403 : decode cL_holds 403 = .ok (.iload 6, 2) := by decide +kernel
theorem dL_holds_405 : decode cL_holds 405 = .ok (.if_icmp .ne 12, 3) := by decide +kernel
theorem dL_holds_408 : decode cL_holds 408 = .ok (.aload_n 0, 1) := by decide +kernel
theorem dL_holds_409 : decode cL_holds 409 = .ok (.iload 8, 2) := by decide +kernel
theorem dL_holds_411 : decode cL_holds 411 = .ok (.invokestatic 124, 3) := by decide +kernel
theorem dL_holds_414 : decode cL_holds 414 = .ok (.goto 4, 3) := by decide +kernel
theorem dL_holds_417 : decode cL_holds 417 = .ok (.iconst 0, 1) := by decide +kernel
theorem dL_holds_418 : decode cL_holds 418 = .ok (.iadd, 1) := by decide +kernel
theorem dL_holds_419 : decode cL_holds 419 = .ok (.istore 7, 2) := by decide +kernel
theorem dL_holds_421 : decode cL_holds 421 = .ok (.iinc 8 1, 3) := by decide +kernel
theorem dL_holds_424 : decode cL_holds 424 = .ok (.goto (-36), 3) := by decide +kernel
theorem dL_holds_427 : decode cL_holds 427 = .ok (.aload_n 0, 1) := by decide +kernel
theorem dL_holds_428 : decode cL_holds 428 = .ok (.iload 6, 2) := by decide +kernel
theorem dL_holds_430 : decode cL_holds 430 = .ok (.invokestatic 137, 3) := by decide +kernel
theorem dL_holds_433 : decode cL_holds 433 = .ok (.iload 7, 2) := by decide +kernel
theorem dL_holds_435 : decode cL_holds 435 = .ok (.if_icmp .ne 7, 3) := by decide +kernel
theorem dL_holds_438 : decode cL_holds 438 = .ok (.iconst 1, 1) := by decide +kernel
theorem dL_holds_439 : decode cL_holds 439 = .ok (.goto 4, 3) := by decide +kernel
theorem dL_holds_442 : decode cL_holds 442 = .ok (.iconst 0, 1) := by decide +kernel
theorem dL_holds_443 : decode cL_holds 443 = .ok (.istore 5, 2) := by decide +kernel
theorem dL_holds_445 : decode cL_holds 445 = .ok (.iinc 6 1, 3) := by decide +kernel
theorem dL_holds_448 : decode cL_holds 448 = .ok (.goto (-77), 3) := by decide +kernel
theorem dL_holds_451 : decode cL_holds 451 = .ok (.iload 5, 2) := by decide +kernel
theorem dL_holds_453 : decode cL_holds 453 = .ok (.ifCond .eq 24, 3) := by decide +kernel
theorem dL_holds_456 : decode cL_holds 456 = .ok (.iload_n 3, 1) := by decide +kernel
theorem dL_holds_457 : decode cL_holds 457 = .ok (.aload_n 0, 1) := by decide +kernel
theorem dL_holds_458 : decode cL_holds 458 = .ok (.invokevirtual 157, 3) := by decide +kernel
theorem dL_holds_461 : decode cL_holds 461 = .ok (.if_icmp .ne 16, 3) := by decide +kernel
theorem dL_holds_464 : decode cL_holds 464 = .ok (.iload 4, 2) := by decide +kernel
theorem dL_holds_466 : decode cL_holds 466 = .ok (.aload_n 0, 1) := by decide +kernel
theorem dL_holds_467 : decode cL_holds 467 = .ok (.invokevirtual 160, 3) := by decide +kernel
theorem dL_holds_470 : decode cL_holds 470 = .ok (.if_icmp .ne 7, 3) := by decide +kernel
theorem dL_holds_473 : decode cL_holds 473 = .ok (.iconst 1, 1) := by decide +kernel
theorem dL_holds_474 : decode cL_holds 474 = .ok (.goto 4, 3) := by decide +kernel
theorem dL_holds_477 : decode cL_holds 477 = .ok (.iconst 0, 1) := by decide +kernel
theorem dL_holds_478 : decode cL_holds 478 = .ok (.ireturn, 1) := by decide +kernel
set_option maxHeartbeats 8000000 in
set_option maxRecDepth 100000 in
theorem ho_a {p : Program} {l : Launch} {e : Env} {s : State} {m : MethodId} {args : Array Value} {below : List Frame} {meth : Method} {c : Code} {Q : State → Prop} {D : va_G} {A : Nat → Prop} {cI cZ : ClassId} {a : Nat → Nat} {B R E : Nat → Nat → Int32} {td : Int32} {qm qw : Nat} {mm ww : Nat → Int32} {H : Heap} {locs : List Loc} {ls : Array Slot} (n : Nat) (q : Nat) (F : CallFix p m c cL_holds 10 s args wsL_holds RL) (hK : va_K D vwCl (tyl cI cZ) s) (hA : ∀ q : Nat, s.heap.size ≤ q → A q) (hX : ExB s) (hZ : ExZ A s s.heap) (hfl : l.stackTraces = false) (hB : B 11 0 = nI n) (hn : n ≤ 40) (hR : R 8 0 = nI q) (hq : q ≤ 30) (I5 : ∀ j, j < q → R 5 j = 0 ∨ R 5 j = 1) (P1 : l_sum (R 1) q = l_sum (R 2) q + l_sum (R 3) q + l_sum (R 4) q + bsm R q) (P2 : ∀ k j, k < n → j < q → ¬ R 6 (40 * j + k) < 0 ∧ (R 6 (40 * j + k) = 0 ∨ (R 0 j = ww k ∧ R 5 j = 0))) (P3 : ∀ k, k < n → l_sum (fun j => R 6 (40 * j + k)) q = B 5 k) (P4 : ∀ k, k < n → ¬ opn B k < 0 ∧ ¬ B 6 k < 0 ∧ ¬ B 8 k < 0 ∧ ¬ B 10 k < 0 ∧ opn B k + B 5 k + B 6 k + B 8 k + B 10 k = mm k ∧ ¬ dueN B k td < 0 ∧ dueN B k td ≤ opn B k ∧ (opn B k = mm k ∨ dueN B k td = opn B k)) (P5 : ∀ j, j < q → ¬ R 3 j < 0 ∧ (R 5 j = 0 ∨ R 3 j = 0)) (P6 : ∀ cc, cc < 2 → oof B (nI cc) n = l_sum (fun k => if ww k = nI cc then opn B k else 0) n) (P7 : l_sum (B 5) n = l_sum (R 2) q) (hP : va_P D vwCl (wCH a cI cZ B R E (td) qm qw mm ww) H) (hD : va_D A (wCH a cI cZ B R E (td) qm qw mm ww)) (hS : va_S A s.heap H locs) (hl : lv_has ls 10 [(0, .ref (a 0)), (1, .ref (qm)), (2, .ref (qw))])
    (k38 : ∀ (H : Heap) (locs : List Loc) (ls : Array Slot), va_P D vwCl (wCH a cI cZ B R E (td) qm qw mm ww) H → va_D A (wCH a cI cZ B R E (td) qm qw mm ww) → va_S A s.heap H locs → lv_has ls 10 [(0, .ref (a 0)), (1, .ref (qm)), (2, .ref (qw)), (3, .int (nI (0))), (4, .int (nI (0))), (5, .int (nI (1)))] → W p l e ({ frames := 9, cells := 0, slots := 0, locals := 190 } : Room) s m args below meth c H locs 0 0 Q (F0 m 38 ls [])) :
    W p l e ({ frames := 9, cells := 0, slots := 0, locals := 190 } : Room) s m args below meth c H locs 0 0 Q (F0 m 0 ls []) := by
  obtain ⟨hx, hb, hml, hown, hts⟩ := id F
  have cv_received : CallW ({ frames := 9, cells := 0, slots := 0, locals := 190 } : Room) s args RL RX3 154 yX3_received cX3_received 1 (some .int) wsX3_received ({ frames := 1, cells := 0, slots := 0, locals := 23 } : Room) 0 0 0 := cwV 0 hts gL_holds_X3_received rfl rfl rfl (by decide +kernel) ⟨Nat.le_of_ble_eq_true rfl, Nat.le_of_ble_eq_true rfl⟩
  have cv_applied : CallW ({ frames := 9, cells := 0, slots := 0, locals := 190 } : Room) s args RL RX3 157 yX3_applied cX3_applied 1 (some .int) wsX3_applied ({ frames := 1, cells := 0, slots := 0, locals := 23 } : Room) 0 0 0 := cwV 0 hts gL_holds_X3_applied rfl rfl rfl (by decide +kernel) ⟨Nat.le_of_ble_eq_true rfl, Nat.le_of_ble_eq_true rfl⟩
  have cv_allUnapplied : CallW ({ frames := 9, cells := 0, slots := 0, locals := 190 } : Room) s args RL RX3 160 yX3_allUnapplied cX3_allUnapplied 1 (some .int) wsX3_allUnapplied ({ frames := 1, cells := 0, slots := 0, locals := 23 } : Room) 0 0 0 := cwV 0 hts gL_holds_X3_allUnapplied rfl rfl rfl (by decide +kernel) ⟨Nat.le_of_ble_eq_true rfl, Nat.le_of_ble_eq_true rfl⟩
  have cv_paidBack : CallW ({ frames := 9, cells := 0, slots := 0, locals := 190 } : Room) s args RL RX3 163 yX3_paidBack cX3_paidBack 1 (some .int) wsX3_paidBack ({ frames := 1, cells := 0, slots := 0, locals := 23 } : Room) 0 0 0 := cwV 0 hts gL_holds_X3_paidBack rfl rfl rfl (by decide +kernel) ⟨Nat.le_of_ble_eq_true rfl, Nat.le_of_ble_eq_true rfl⟩
  have cv_bounced : CallW ({ frames := 9, cells := 0, slots := 0, locals := 190 } : Room) s args RL RX3 166 yX3_bounced cX3_bounced 1 (some .int) wsX3_bounced ({ frames := 1, cells := 0, slots := 0, locals := 22 } : Room) 0 0 0 := cwV 0 hts gL_holds_X3_bounced rfl rfl rfl (by decide +kernel) ⟨Nat.le_of_ble_eq_true rfl, Nat.le_of_ble_eq_true rfl⟩
  refine lv_iconst (v := nI (0)) hx hb dL_holds_0 (by decide) ?_
  refine lv_istore_n (lv' := [(3, .int (nI (0))), (0, .ref (a 0)), (1, .ref (qm)), (2, .ref (qw))]) hx hb dL_holds_1 rfl hl (by decide) rfl (fun ls hl => ?_)
  refine lv_iconst (v := nI (0)) hx hb dL_holds_2 (by decide) ?_
  refine lv_istore (lv' := [(4, .int (nI (0))), (3, .int (nI (0))), (0, .ref (a 0)), (1, .ref (qm)), (2, .ref (qw))]) hx hb dL_holds_3 hl (by decide) rfl (fun ls hl => ?_)
  refine lv_aload_n hx hb dL_holds_5 rfl (lv_at hl 2 rfl) ?_
  refine zkV (v := l_sum (R 1) q) kCH (ci := 3) (q0 := 0) F (zwCH hP hD hS hA) hK (c_X3_received l D cI cZ a H.size (B) (R) (E) (td) (q) (by first | assumption | omega) (by first | assumption | omega)) cv_received rfl rfl (by decide) rfl rfl hl.1 rfl (Nat.le_of_ble_eq_true rfl) dL_holds_6 ⟨Nat.le_of_ble_eq_true rfl, Nat.le_of_ble_eq_true rfl⟩ (fun H locs hP hD hS => ?_)
  refine lv_aload_n hx hb dL_holds_9 rfl (lv_at hl 2 rfl) ?_
  refine zkV (v := l_sum (R 2) q) kCH (ci := 3) (q0 := 0) F (zwCH hP hD hS hA) hK (c_X3_applied l D cI cZ a H.size (B) (R) (E) (td) (q) (by first | assumption | omega) (by first | assumption | omega)) cv_applied rfl rfl (by decide) rfl rfl hl.1 rfl (Nat.le_of_ble_eq_true rfl) dL_holds_10 ⟨Nat.le_of_ble_eq_true rfl, Nat.le_of_ble_eq_true rfl⟩ (fun H locs hP hD hS => ?_)
  refine lv_aload_n hx hb dL_holds_13 rfl (lv_at hl 2 rfl) ?_
  refine zkV (v := l_sum (R 3) q) kCH (ci := 3) (q0 := 0) F (zwCH hP hD hS hA) hK (c_X3_allUnapplied l D cI cZ a H.size (B) (R) (E) (td) (q) (by first | assumption | omega) (by first | assumption | omega)) cv_allUnapplied rfl rfl (by decide) rfl rfl hl.1 rfl (Nat.le_of_ble_eq_true rfl) dL_holds_14 ⟨Nat.le_of_ble_eq_true rfl, Nat.le_of_ble_eq_true rfl⟩ (fun H locs hP hD hS => ?_)
  refine lv_iadd hx hb dL_holds_17 ?_
  refine lv_aload_n hx hb dL_holds_18 rfl (lv_at hl 2 rfl) ?_
  refine zkV (v := l_sum (R 4) q) kCH (ci := 3) (q0 := 0) F (zwCH hP hD hS hA) hK (c_X3_paidBack l D cI cZ a H.size (B) (R) (E) (td) (q) (by first | assumption | omega) (by first | assumption | omega)) cv_paidBack rfl rfl (by decide) rfl rfl hl.1 rfl (Nat.le_of_ble_eq_true rfl) dL_holds_19 ⟨Nat.le_of_ble_eq_true rfl, Nat.le_of_ble_eq_true rfl⟩ (fun H locs hP hD hS => ?_)
  refine lv_iadd hx hb dL_holds_22 ?_
  refine lv_aload_n hx hb dL_holds_23 rfl (lv_at hl 2 rfl) ?_
  refine zkV (v := bsm R q) kCH (ci := 3) (q0 := 0) F (zwCH hP hD hS hA) hK (c_X3_bounced l D cI cZ a H.size (B) (R) (E) (td) (q) (by first | assumption | omega) (by first | assumption | omega)) cv_bounced rfl rfl (by decide) rfl rfl hl.1 rfl (Nat.le_of_ble_eq_true rfl) dL_holds_24 ⟨Nat.le_of_ble_eq_true rfl, Nat.le_of_ble_eq_true rfl⟩ (fun H locs hP hD hS => ?_)
  refine lv_iadd hx hb dL_holds_27 ?_
  refine lv_icmp_ne (tgt := 35) hx hb dL_holds_28 (by decide) (fun c28 => ?_) (fun c28 => ?_)
  · -- 28 taken
    exact absurd P1 c28
  · -- 28 on
    refine lv_iconst (v := nI (1)) hx hb dL_holds_31 (by decide) ?_
    refine lv_goto (tgt := 36) hx hb dL_holds_32 (by decide) ?_
    refine lv_istore (lv' := [(5, .int (nI (1))), (4, .int (nI (0))), (3, .int (nI (0))), (0, .ref (a 0)), (1, .ref (qm)), (2, .ref (qw))]) hx hb dL_holds_36 hl (by decide) rfl (fun ls hl => ?_)
    exact k38  _ _ _ hP hD hS (lv_sub hl [3, 4, 5, 2, 1, 0] rfl)
set_option maxHeartbeats 8000000 in
set_option maxRecDepth 100000 in
theorem ho_b {p : Program} {l : Launch} {e : Env} {s : State} {m : MethodId} {args : Array Value} {below : List Frame} {meth : Method} {c : Code} {Q : State → Prop} {D : va_G} {A : Nat → Prop} {cI cZ : ClassId} {a : Nat → Nat} {B R E : Nat → Nat → Int32} {td : Int32} {qm qw : Nat} {mm ww : Nat → Int32} {H : Heap} {locs : List Loc} {ls : Array Slot} (n : Nat) (q : Nat) (F : CallFix p m c cL_holds 10 s args wsL_holds RL) (hK : va_K D vwCl (tyl cI cZ) s) (hA : ∀ q : Nat, s.heap.size ≤ q → A q) (hX : ExB s) (hZ : ExZ A s s.heap) (hfl : l.stackTraces = false) (hB : B 11 0 = nI n) (hn : n ≤ 40) (hR : R 8 0 = nI q) (hq : q ≤ 30) (I5 : ∀ j, j < q → R 5 j = 0 ∨ R 5 j = 1) (P1 : l_sum (R 1) q = l_sum (R 2) q + l_sum (R 3) q + l_sum (R 4) q + bsm R q) (P2 : ∀ k j, k < n → j < q → ¬ R 6 (40 * j + k) < 0 ∧ (R 6 (40 * j + k) = 0 ∨ (R 0 j = ww k ∧ R 5 j = 0))) (P3 : ∀ k, k < n → l_sum (fun j => R 6 (40 * j + k)) q = B 5 k) (P4 : ∀ k, k < n → ¬ opn B k < 0 ∧ ¬ B 6 k < 0 ∧ ¬ B 8 k < 0 ∧ ¬ B 10 k < 0 ∧ opn B k + B 5 k + B 6 k + B 8 k + B 10 k = mm k ∧ ¬ dueN B k td < 0 ∧ dueN B k td ≤ opn B k ∧ (opn B k = mm k ∨ dueN B k td = opn B k)) (P5 : ∀ j, j < q → ¬ R 3 j < 0 ∧ (R 5 j = 0 ∨ R 3 j = 0)) (P6 : ∀ cc, cc < 2 → oof B (nI cc) n = l_sum (fun k => if ww k = nI cc then opn B k else 0) n) (P7 : l_sum (B 5) n = l_sum (R 2) q) (hP : va_P D vwCl (wCH a cI cZ B R E (td) qm qw mm ww) H) (hD : va_D A (wCH a cI cZ B R E (td) qm qw mm ww)) (hS : va_S A s.heap H locs) (hl : lv_has ls 10 [(0, .ref (a 0)), (1, .ref (qm)), (2, .ref (qw)), (3, .int (nI (0))), (4, .int (nI (0))), (5, .int (nI (1)))])
    (k300 : ∀ (H : Heap) (locs : List Loc) (ls : Array Slot), va_P D vwCl (wCH a cI cZ B R E (td) qm qw mm ww) H → va_D A (wCH a cI cZ B R E (td) qm qw mm ww) → va_S A s.heap H locs → lv_has ls 10 [(0, .ref (a 0)), (1, .ref (qm)), (2, .ref (qw)), (3, .int (l_sum (B 5) n)), (4, .int (nI (0))), (5, .int (nI (1)))] → W p l e ({ frames := 9, cells := 0, slots := 0, locals := 190 } : Room) s m args below meth c H locs 0 0 Q (F0 m 300 ls [])) :
    W p l e ({ frames := 9, cells := 0, slots := 0, locals := 190 } : Room) s m args below meth c H locs 0 0 Q (F0 m 38 ls []) := by
  obtain ⟨hx, hb, hml, hown, hts⟩ := id F
  have cv_bills : CallW ({ frames := 9, cells := 0, slots := 0, locals := 190 } : Room) s args RL RX3 90 yX3_bills cX3_bills 1 (some .int) wsX3_bills ({ frames := 0, cells := 0, slots := 0, locals := 0 } : Room) 0 0 0 := cwV 0 hts gL_holds_X3_bills rfl rfl rfl (by decide +kernel) ⟨Nat.le_of_ble_eq_true rfl, Nat.le_of_ble_eq_true rfl⟩
  have cv_receipts : CallW ({ frames := 9, cells := 0, slots := 0, locals := 190 } : Room) s args RL RX3 86 yX3_receipts cX3_receipts 1 (some .int) wsX3_receipts ({ frames := 0, cells := 0, slots := 0, locals := 0 } : Room) 0 0 0 := cwV 0 hts gL_holds_X3_receipts rfl rfl rfl (by decide +kernel) ⟨Nat.le_of_ble_eq_true rfl, Nat.le_of_ble_eq_true rfl⟩
  have cw_paid_0 : vx_CSW ({ frames := 9, cells := 0, slots := 0, locals := 190 } : Room) s args RL 128 yL_paid cL_paid 3 (some .int) [(0, 5, 6, 13)] wsL_paid ({ frames := 2, cells := 0, slots := 0, locals := 42 } : Room) 0 0 2 := vx_cwSW 2 hts gL_holds_L_paid rfl rfl rfl (by decide +kernel) ⟨Nat.le_of_ble_eq_true rfl, Nat.le_of_ble_eq_true rfl⟩
  have cw_open_0 : vx_CSW ({ frames := 9, cells := 0, slots := 0, locals := 190 } : Room) s args RL 124 yL_open cL_open 3 (some .int) [(0, 5, 6, 13)] wsL_open ({ frames := 2, cells := 0, slots := 0, locals := 42 } : Room) 0 0 2 := vx_cwSW 2 hts gL_holds_L_open rfl rfl rfl (by decide +kernel) ⟨Nat.le_of_ble_eq_true rfl, Nat.le_of_ble_eq_true rfl⟩
  have cw_taken_0 : vx_CSW ({ frames := 9, cells := 0, slots := 0, locals := 190 } : Room) s args RL 130 yL_taken cL_taken 3 (some .int) [(0, 5, 6, 13)] wsL_taken ({ frames := 2, cells := 0, slots := 0, locals := 42 } : Room) 0 0 2 := vx_cwSW 2 hts gL_holds_L_taken rfl rfl rfl (by decide +kernel) ⟨Nat.le_of_ble_eq_true rfl, Nat.le_of_ble_eq_true rfl⟩
  have cw_disputed_0 : vx_CSW ({ frames := 9, cells := 0, slots := 0, locals := 190 } : Room) s args RL 132 yL_disputed cL_disputed 3 (some .int) [(0, 5, 6, 13)] wsL_disputed ({ frames := 2, cells := 0, slots := 0, locals := 42 } : Room) 0 0 2 := vx_cwSW 2 hts gL_holds_L_disputed rfl rfl rfl (by decide +kernel) ⟨Nat.le_of_ble_eq_true rfl, Nat.le_of_ble_eq_true rfl⟩
  have cw_written_0 : vx_CSW ({ frames := 9, cells := 0, slots := 0, locals := 190 } : Room) s args RL 134 yL_written cL_written 3 (some .int) [(0, 5, 6, 13)] wsL_written ({ frames := 2, cells := 0, slots := 0, locals := 42 } : Room) 0 0 2 := vx_cwSW 2 hts gL_holds_L_written rfl rfl rfl (by decide +kernel) ⟨Nat.le_of_ble_eq_true rfl, Nat.le_of_ble_eq_true rfl⟩
  have cw_due_0 : vx_CSW ({ frames := 9, cells := 0, slots := 0, locals := 190 } : Room) s args RL 126 yL_due cL_due 3 (some .int) [(0, 5, 6, 13)] wsL_due ({ frames := 4, cells := 0, slots := 0, locals := 87 } : Room) 0 0 2 := vx_cwSW 2 hts gL_holds_L_due rfl rfl rfl (by decide +kernel) ⟨Nat.le_of_ble_eq_true rfl, Nat.le_of_ble_eq_true rfl⟩
  have cw_appliedTo_0 : vx_CSW ({ frames := 9, cells := 0, slots := 0, locals := 190 } : Room) s args RL 144 yL_appliedTo cL_appliedTo 4 (some .int) [(0, 6, 7, 13)] wsL_appliedTo ({ frames := 3, cells := 0, slots := 0, locals := 65 } : Room) 0 0 3 := vx_cwSW 3 hts gL_holds_L_appliedTo rfl rfl rfl (by decide +kernel) ⟨Nat.le_of_ble_eq_true rfl, Nat.le_of_ble_eq_true rfl⟩
  have cw_customer_0 : vx_CSW ({ frames := 9, cells := 0, slots := 0, locals := 190 } : Room) s args RL 141 yL_customer cL_customer 3 (some .int) [(0, 5, 6, 13)] wsL_customer ({ frames := 2, cells := 0, slots := 0, locals := 42 } : Room) 0 0 2 := vx_cwSW 2 hts gL_holds_L_customer rfl rfl rfl (by decide +kernel) ⟨Nat.le_of_ble_eq_true rfl, Nat.le_of_ble_eq_true rfl⟩
  have cw_bounced_0 : vx_CSW ({ frames := 9, cells := 0, slots := 0, locals := 190 } : Room) s args RL 148 yL_bounced cL_bounced 3 (some .int) [(0, 13, 14, 13)] wsL_bounced ({ frames := 2, cells := 0, slots := 0, locals := 42 } : Room) 0 0 2 := vx_cwSW 2 hts gL_holds_L_bounced rfl rfl rfl (by decide +kernel) ⟨Nat.le_of_ble_eq_true rfl, Nat.le_of_ble_eq_true rfl⟩
  refine lv_iconst (v := nI (0)) hx hb dL_holds_38 (by decide) ?_
  refine lv_istore (lv' := [(6, .int (nI (0))), (0, .ref (a 0)), (1, .ref (qm)), (2, .ref (qw)), (3, .int (nI (0))), (4, .int (nI (0))), (5, .int (nI (1)))]) hx hb dL_holds_39 hl (by decide) rfl (fun ls hl => ?_)
  have loop41 : ∀ (fu : Nat) (k : Nat) (hk : k ≤ n) (hfu : n - k < fu) (H : Heap) (locs : List Loc) (hP : va_P D vwCl (wCH a cI cZ B R E (td) qm qw mm ww) H) (hD : va_D A (wCH a cI cZ B R E (td) qm qw mm ww)) (hS : va_S A s.heap H locs) (ls : Array Slot) (hl : lv_has ls 10 [(0, .ref (a 0)), (1, .ref (qm)), (2, .ref (qw)), (3, .int (l_sum (B 5) (k))), (4, .int (nI (0))), (5, .int (nI (1))), (6, .int (nI (k)))]), W p l e ({ frames := 9, cells := 0, slots := 0, locals := 190 } : Room) s m args below meth c H locs 0 0 Q (F0 m 41 ls []) := by
    clear hP hD hS hl
    intro fu41
    induction fu41 with
    | zero => intro k hk hfu; exact absurd hfu (Nat.not_lt_zero _)
    | succ fu41 ih41 =>
      intro k hk hfu H locs hP hD hS ls hl
      refine lv_iload hx hb dL_holds_41 (lv_at hl 6 rfl) ?_
      refine lv_aload_n hx hb dL_holds_43 rfl (lv_at hl 0 rfl) ?_
      refine zkV (v := B 11 0) kCH (ci := 3) (q0 := 0) F (zwCH hP hD hS hA) hK (c_X3_bills l D cI cZ a H.size (B) (R) (E) (td) ) cv_bills rfl rfl (by decide) rfl rfl hl.1 rfl (Nat.le_of_ble_eq_true rfl) dL_holds_44 ⟨Nat.le_of_ble_eq_true rfl, Nat.le_of_ble_eq_true rfl⟩ (fun H locs hP hD hS => ?_)
      rw [hB]
      refine lv_icmp_ge (tgt := 300) hx hb dL_holds_47 (by decide) (fun c47 => ?_) (fun c47 => ?_)
      · -- 47 taken
        rw [nI_leI (by omega) (by omega)] at c47
        have hl : lv_has ls 10 [(0, .ref (a 0)), (1, .ref (qm)), (2, .ref (qw)), (3, .int (l_sum (B 5) n)), (4, .int (nI (0))), (5, .int (nI (1))), (6, .int (nI (k)))] := by rw [show n = k by omega]; exact hl
        exact k300  _ _ _ hP hD hS (lv_sub hl [0, 1, 2, 3, 4, 5] rfl)
      · -- 47 on
        rw [nI_leI (by omega) (by omega)] at c47
        refine lv_iload hx hb dL_holds_50 (lv_at hl 5 rfl) ?_
        refine lv_if_eq (tgt := 300) hx hb dL_holds_52 (by decide) (fun c52 => ?_) (fun c52 => ?_)
        · -- 52 taken
          exact absurd c52 (by decide)
        · -- 52 on
          rw [show (0 : Int32) = nI 0 from rfl] at c52
          rw [nI_eq (by omega) (by omega)] at c52
          refine lv_iconst (v := nI (0)) hx hb dL_holds_55 (by decide) ?_
          refine lv_istore (lv' := [(7, .int (nI (0))), (0, .ref (a 0)), (1, .ref (qm)), (2, .ref (qw)), (3, .int (l_sum (B 5) (k))), (4, .int (nI (0))), (5, .int (nI (1))), (6, .int (nI (k)))]) hx hb dL_holds_56 hl (by decide) rfl (fun ls hl => ?_)
          refine lv_iconst (v := nI (0)) hx hb dL_holds_58 (by decide) ?_
          refine lv_istore (lv' := [(8, .int (nI (0))), (7, .int (nI (0))), (0, .ref (a 0)), (1, .ref (qm)), (2, .ref (qw)), (3, .int (l_sum (B 5) (k))), (4, .int (nI (0))), (5, .int (nI (1))), (6, .int (nI (k)))]) hx hb dL_holds_59 hl (by decide) rfl (fun ls hl => ?_)
          have loop61 : ∀ (fu : Nat) (j : Nat) (hj : j ≤ q) (hfu : q - j < fu) (H : Heap) (locs : List Loc) (hP : va_P D vwCl (wCH a cI cZ B R E (td) qm qw mm ww) H) (hD : va_D A (wCH a cI cZ B R E (td) qm qw mm ww)) (hS : va_S A s.heap H locs) (ls : Array Slot) (hl : lv_has ls 10 [(0, .ref (a 0)), (1, .ref (qm)), (2, .ref (qw)), (3, .int (l_sum (B 5) (k))), (4, .int (nI (0))), (5, .int (nI (1))), (6, .int (nI (k))), (7, .int (l_sum (fun j => R 6 (40 * j + (k))) (j))), (8, .int (nI (j)))]), W p l e ({ frames := 9, cells := 0, slots := 0, locals := 190 } : Room) s m args below meth c H locs 0 0 Q (F0 m 61 ls []) := by
            clear hP hD hS hl
            intro fu61
            induction fu61 with
            | zero => intro j hj hfu; exact absurd hfu (Nat.not_lt_zero _)
            | succ fu61 ih61 =>
              intro j hj hfu H locs hP hD hS ls hl
              refine lv_iload hx hb dL_holds_61 (lv_at hl 8 rfl) ?_
              refine lv_aload_n hx hb dL_holds_63 rfl (lv_at hl 0 rfl) ?_
              refine zkV (v := R 8 0) kCH (ci := 3) (q0 := 0) F (zwCH hP hD hS hA) hK (c_X3_receipts l D cI cZ a H.size (B) (R) (E) (td) ) cv_receipts rfl rfl (by decide) rfl rfl hl.1 rfl (Nat.le_of_ble_eq_true rfl) dL_holds_64 ⟨Nat.le_of_ble_eq_true rfl, Nat.le_of_ble_eq_true rfl⟩ (fun H locs hP hD hS => ?_)
              rw [hR]
              refine lv_icmp_ge (tgt := 137) hx hb dL_holds_67 (by decide) (fun c67 => ?_) (fun c67 => ?_)
              · -- 67 taken
                rw [nI_leI (by omega) (by omega)] at c67
                have hl : lv_has ls 10 [(0, .ref (a 0)), (1, .ref (qm)), (2, .ref (qw)), (3, .int (l_sum (B 5) (k))), (4, .int (nI (0))), (5, .int (nI (1))), (6, .int (nI (k))), (7, .int (B 5 (k))), (8, .int (nI (j)))] := by rw [← P3 k (by omega), show q = j by omega]; exact hl
                refine lv_iload_n hx hb dL_holds_137 rfl (lv_at hl 3 rfl) ?_
                refine lv_iload hx hb dL_holds_138 (lv_at hl 7 rfl) ?_
                refine lv_iadd hx hb dL_holds_140 ?_
                refine lv_istore_n (lv' := [(3, .int ((l_sum (B 5) (k)) + (B 5 (k)))), (0, .ref (a 0)), (1, .ref (qm)), (2, .ref (qw)), (4, .int (nI (0))), (5, .int (nI (1))), (6, .int (nI (k))), (7, .int (B 5 (k))), (8, .int (nI (j)))]) hx hb dL_holds_141 rfl hl (by decide) rfl (fun ls hl => ?_)
                refine lv_iload hx hb dL_holds_142 (lv_at hl 5 rfl) ?_
                refine lv_if_eq (tgt := 291) hx hb dL_holds_144 (by decide) (fun c144 => ?_) (fun c144 => ?_)
                · -- 144 taken
                  exact absurd c144 (by decide)
                · -- 144 on
                  rw [show (0 : Int32) = nI 0 from rfl] at c144
                  rw [nI_eq (by omega) (by omega)] at c144
                  refine lv_iload hx hb dL_holds_147 (lv_at hl 7 rfl) ?_
                  refine lv_aload_n hx hb dL_holds_149 rfl (lv_at hl 1 rfl) ?_
                  refine lv_iload hx hb dL_holds_150 (lv_at hl 6 rfl) ?_
                  refine zkW (v := B 5 (k)) kCH F (zwCH hP hD hS hA) hK hX hZ (c_L_paid_0 l D cI cZ a H.size (B) (R) (E) (td) (n) (k) (by first | assumption | omega) (by first | assumption | omega) (by first | assumption | omega)) cw_paid_0 (by decide) rfl rfl hl.1 rfl (Nat.le_of_ble_eq_true rfl) dL_holds_152 ⟨Nat.le_of_ble_eq_true rfl, Nat.le_of_ble_eq_true rfl⟩ (fun H locs hP hD hS => ?_)
                  refine lv_icmp_ne (tgt := 291) hx hb dL_holds_155 (by decide) (fun c155 => ?_) (fun c155 => ?_)
                  · -- 155 taken
                    exact absurd rfl c155
                  · -- 155 on
                    refine lv_aload_n hx hb dL_holds_158 rfl (lv_at hl 1 rfl) ?_
                    refine lv_iload hx hb dL_holds_159 (lv_at hl 6 rfl) ?_
                    refine zkW (v := opn B (k)) kCH F (zwCH hP hD hS hA) hK hX hZ (c_L_open_0 l D cI cZ a H.size (B) (R) (E) (td) (n) (k) (by first | assumption | omega) (by first | assumption | omega) (by first | assumption | omega)) cw_open_0 (by decide) rfl rfl hl.1 rfl (Nat.le_of_ble_eq_true rfl) dL_holds_161 ⟨Nat.le_of_ble_eq_true rfl, Nat.le_of_ble_eq_true rfl⟩ (fun H locs hP hD hS => ?_)
                    refine lv_if_lt (tgt := 291) hx hb dL_holds_164 (by decide) (fun c164 => ?_) (fun c164 => ?_)
                    · -- 164 taken
                      exact absurd c164 (P4 k (by omega)).1
                    · -- 164 on
                      refine lv_aload_n hx hb dL_holds_167 rfl (lv_at hl 1 rfl) ?_
                      refine lv_iload hx hb dL_holds_168 (lv_at hl 6 rfl) ?_
                      refine zkW (v := B 6 (k)) kCH F (zwCH hP hD hS hA) hK hX hZ (c_L_taken_0 l D cI cZ a H.size (B) (R) (E) (td) (n) (k) (by first | assumption | omega) (by first | assumption | omega) (by first | assumption | omega)) cw_taken_0 (by decide) rfl rfl hl.1 rfl (Nat.le_of_ble_eq_true rfl) dL_holds_170 ⟨Nat.le_of_ble_eq_true rfl, Nat.le_of_ble_eq_true rfl⟩ (fun H locs hP hD hS => ?_)
                      refine lv_if_lt (tgt := 291) hx hb dL_holds_173 (by decide) (fun c173 => ?_) (fun c173 => ?_)
                      · -- 173 taken
                        exact absurd c173 (P4 k (by omega)).2.1
                      · -- 173 on
                        refine lv_aload_n hx hb dL_holds_176 rfl (lv_at hl 1 rfl) ?_
                        refine lv_iload hx hb dL_holds_177 (lv_at hl 6 rfl) ?_
                        refine zkW (v := B 8 (k)) kCH F (zwCH hP hD hS hA) hK hX hZ (c_L_disputed_0 l D cI cZ a H.size (B) (R) (E) (td) (n) (k) (by first | assumption | omega) (by first | assumption | omega) (by first | assumption | omega)) cw_disputed_0 (by decide) rfl rfl hl.1 rfl (Nat.le_of_ble_eq_true rfl) dL_holds_179 ⟨Nat.le_of_ble_eq_true rfl, Nat.le_of_ble_eq_true rfl⟩ (fun H locs hP hD hS => ?_)
                        refine lv_if_lt (tgt := 291) hx hb dL_holds_182 (by decide) (fun c182 => ?_) (fun c182 => ?_)
                        · -- 182 taken
                          exact absurd c182 (P4 k (by omega)).2.2.1
                        · -- 182 on
                          refine lv_aload_n hx hb dL_holds_185 rfl (lv_at hl 1 rfl) ?_
                          refine lv_iload hx hb dL_holds_186 (lv_at hl 6 rfl) ?_
                          refine zkW (v := B 10 (k)) kCH F (zwCH hP hD hS hA) hK hX hZ (c_L_written_0 l D cI cZ a H.size (B) (R) (E) (td) (n) (k) (by first | assumption | omega) (by first | assumption | omega) (by first | assumption | omega)) cw_written_0 (by decide) rfl rfl hl.1 rfl (Nat.le_of_ble_eq_true rfl) dL_holds_188 ⟨Nat.le_of_ble_eq_true rfl, Nat.le_of_ble_eq_true rfl⟩ (fun H locs hP hD hS => ?_)
                          refine lv_if_lt (tgt := 291) hx hb dL_holds_191 (by decide) (fun c191 => ?_) (fun c191 => ?_)
                          · -- 191 taken
                            exact absurd c191 (P4 k (by omega)).2.2.2.1
                          · -- 191 on
                            refine lv_aload_n hx hb dL_holds_194 rfl (lv_at hl 1 rfl) ?_
                            refine lv_iload hx hb dL_holds_195 (lv_at hl 6 rfl) ?_
                            refine zkW (v := opn B (k)) kCH F (zwCH hP hD hS hA) hK hX hZ (c_L_open_0 l D cI cZ a H.size (B) (R) (E) (td) (n) (k) (by first | assumption | omega) (by first | assumption | omega) (by first | assumption | omega)) cw_open_0 (by decide) rfl rfl hl.1 rfl (Nat.le_of_ble_eq_true rfl) dL_holds_197 ⟨Nat.le_of_ble_eq_true rfl, Nat.le_of_ble_eq_true rfl⟩ (fun H locs hP hD hS => ?_)
                            refine lv_aload_n hx hb dL_holds_200 rfl (lv_at hl 1 rfl) ?_
                            refine lv_iload hx hb dL_holds_201 (lv_at hl 6 rfl) ?_
                            refine zkW (v := B 5 (k)) kCH F (zwCH hP hD hS hA) hK hX hZ (c_L_paid_0 l D cI cZ a H.size (B) (R) (E) (td) (n) (k) (by first | assumption | omega) (by first | assumption | omega) (by first | assumption | omega)) cw_paid_0 (by decide) rfl rfl hl.1 rfl (Nat.le_of_ble_eq_true rfl) dL_holds_203 ⟨Nat.le_of_ble_eq_true rfl, Nat.le_of_ble_eq_true rfl⟩ (fun H locs hP hD hS => ?_)
                            refine lv_iadd hx hb dL_holds_206 ?_
                            refine lv_aload_n hx hb dL_holds_207 rfl (lv_at hl 1 rfl) ?_
                            refine lv_iload hx hb dL_holds_208 (lv_at hl 6 rfl) ?_
                            refine zkW (v := B 6 (k)) kCH F (zwCH hP hD hS hA) hK hX hZ (c_L_taken_0 l D cI cZ a H.size (B) (R) (E) (td) (n) (k) (by first | assumption | omega) (by first | assumption | omega) (by first | assumption | omega)) cw_taken_0 (by decide) rfl rfl hl.1 rfl (Nat.le_of_ble_eq_true rfl) dL_holds_210 ⟨Nat.le_of_ble_eq_true rfl, Nat.le_of_ble_eq_true rfl⟩ (fun H locs hP hD hS => ?_)
                            refine lv_iadd hx hb dL_holds_213 ?_
                            refine lv_aload_n hx hb dL_holds_214 rfl (lv_at hl 1 rfl) ?_
                            refine lv_iload hx hb dL_holds_215 (lv_at hl 6 rfl) ?_
                            refine zkW (v := B 8 (k)) kCH F (zwCH hP hD hS hA) hK hX hZ (c_L_disputed_0 l D cI cZ a H.size (B) (R) (E) (td) (n) (k) (by first | assumption | omega) (by first | assumption | omega) (by first | assumption | omega)) cw_disputed_0 (by decide) rfl rfl hl.1 rfl (Nat.le_of_ble_eq_true rfl) dL_holds_217 ⟨Nat.le_of_ble_eq_true rfl, Nat.le_of_ble_eq_true rfl⟩ (fun H locs hP hD hS => ?_)
                            refine lv_iadd hx hb dL_holds_220 ?_
                            refine lv_aload_n hx hb dL_holds_221 rfl (lv_at hl 1 rfl) ?_
                            refine lv_iload hx hb dL_holds_222 (lv_at hl 6 rfl) ?_
                            refine zkW (v := B 10 (k)) kCH F (zwCH hP hD hS hA) hK hX hZ (c_L_written_0 l D cI cZ a H.size (B) (R) (E) (td) (n) (k) (by first | assumption | omega) (by first | assumption | omega) (by first | assumption | omega)) cw_written_0 (by decide) rfl rfl hl.1 rfl (Nat.le_of_ble_eq_true rfl) dL_holds_224 ⟨Nat.le_of_ble_eq_true rfl, Nat.le_of_ble_eq_true rfl⟩ (fun H locs hP hD hS => ?_)
                            refine lv_iadd hx hb dL_holds_227 ?_
                            refine lv_aload_n hx hb dL_holds_228 rfl (lv_at hl 2 rfl) ?_
                            refine lv_iload hx hb dL_holds_229 (lv_at hl 6 rfl) ?_
                            refine zald hx hb hK hP 26 (n := 40) (f := mm) rfl (k) rfl (by omega) (by decide) dL_holds_231 ?_
                            refine lv_icmp_ne (tgt := 291) hx hb dL_holds_232 (by decide) (fun c232 => ?_) (fun c232 => ?_)
                            · -- 232 taken
                              exact absurd (P4 k (by omega)).2.2.2.2.1 c232
                            · -- 232 on
                              refine lv_aload_n hx hb dL_holds_235 rfl (lv_at hl 1 rfl) ?_
                              refine lv_iload hx hb dL_holds_236 (lv_at hl 6 rfl) ?_
                              refine zkW (v := dueN B (k) td) kCH F (zwCH hP hD hS hA) hK hX hZ (c_L_due_0 l D cI cZ a H.size (B) (R) (E) (td) (n) (k) (by first | assumption | omega) (by first | assumption | omega) (by first | assumption | omega)) cw_due_0 (by decide) rfl rfl hl.1 rfl (Nat.le_of_ble_eq_true rfl) dL_holds_238 ⟨Nat.le_of_ble_eq_true rfl, Nat.le_of_ble_eq_true rfl⟩ (fun H locs hP hD hS => ?_)
                              refine lv_if_lt (tgt := 291) hx hb dL_holds_241 (by decide) (fun c241 => ?_) (fun c241 => ?_)
                              · -- 241 taken
                                exact absurd c241 (P4 k (by omega)).2.2.2.2.2.1
                              · -- 241 on
                                refine lv_aload_n hx hb dL_holds_244 rfl (lv_at hl 1 rfl) ?_
                                refine lv_iload hx hb dL_holds_245 (lv_at hl 6 rfl) ?_
                                refine zkW (v := dueN B (k) td) kCH F (zwCH hP hD hS hA) hK hX hZ (c_L_due_0 l D cI cZ a H.size (B) (R) (E) (td) (n) (k) (by first | assumption | omega) (by first | assumption | omega) (by first | assumption | omega)) cw_due_0 (by decide) rfl rfl hl.1 rfl (Nat.le_of_ble_eq_true rfl) dL_holds_247 ⟨Nat.le_of_ble_eq_true rfl, Nat.le_of_ble_eq_true rfl⟩ (fun H locs hP hD hS => ?_)
                                refine lv_aload_n hx hb dL_holds_250 rfl (lv_at hl 1 rfl) ?_
                                refine lv_iload hx hb dL_holds_251 (lv_at hl 6 rfl) ?_
                                refine zkW (v := opn B (k)) kCH F (zwCH hP hD hS hA) hK hX hZ (c_L_open_0 l D cI cZ a H.size (B) (R) (E) (td) (n) (k) (by first | assumption | omega) (by first | assumption | omega) (by first | assumption | omega)) cw_open_0 (by decide) rfl rfl hl.1 rfl (Nat.le_of_ble_eq_true rfl) dL_holds_253 ⟨Nat.le_of_ble_eq_true rfl, Nat.le_of_ble_eq_true rfl⟩ (fun H locs hP hD hS => ?_)
                                refine lv_icmp_gt (tgt := 291) hx hb dL_holds_256 (by decide) (fun c256 => ?_) (fun c256 => ?_)
                                · -- 256 taken
                                  exact absurd c256 (Int32.not_lt.mpr (P4 k (by omega)).2.2.2.2.2.2.1)
                                · -- 256 on
                                  refine lv_aload_n hx hb dL_holds_259 rfl (lv_at hl 1 rfl) ?_
                                  refine lv_iload hx hb dL_holds_260 (lv_at hl 6 rfl) ?_
                                  refine zkW (v := opn B (k)) kCH F (zwCH hP hD hS hA) hK hX hZ (c_L_open_0 l D cI cZ a H.size (B) (R) (E) (td) (n) (k) (by first | assumption | omega) (by first | assumption | omega) (by first | assumption | omega)) cw_open_0 (by decide) rfl rfl hl.1 rfl (Nat.le_of_ble_eq_true rfl) dL_holds_262 ⟨Nat.le_of_ble_eq_true rfl, Nat.le_of_ble_eq_true rfl⟩ (fun H locs hP hD hS => ?_)
                                  refine lv_aload_n hx hb dL_holds_265 rfl (lv_at hl 2 rfl) ?_
                                  refine lv_iload hx hb dL_holds_266 (lv_at hl 6 rfl) ?_
                                  refine zald hx hb hK hP 26 (n := 40) (f := mm) rfl (k) rfl (by omega) (by decide) dL_holds_268 ?_
                                  refine lv_icmp_eq (tgt := 287) hx hb dL_holds_269 (by decide) (fun c269 => ?_) (fun c269 => ?_)
                                  · -- 269 taken
                                    refine lv_iconst (v := nI (1)) hx hb dL_holds_287 (by decide) ?_
                                    refine lv_goto (tgt := 292) hx hb dL_holds_288 (by decide) ?_
                                    refine lv_istore (lv' := [(5, .int (nI (1))), (3, .int ((l_sum (B 5) (k)) + (B 5 (k)))), (0, .ref (a 0)), (1, .ref (qm)), (2, .ref (qw)), (4, .int (nI (0))), (6, .int (nI (k))), (7, .int (B 5 (k))), (8, .int (nI (j)))]) hx hb dL_holds_292 hl (by decide) rfl (fun ls hl => ?_)
                                    refine lv_iinc (v := nI (k + 1)) (lv' := [(6, .int (nI (k + 1))), (5, .int (nI (1))), (3, .int ((l_sum (B 5) (k)) + (B 5 (k)))), (0, .ref (a 0)), (1, .ref (qm)), (2, .ref (qw)), (4, .int (nI (0))), (7, .int (B 5 (k))), (8, .int (nI (j)))]) hx hb dL_holds_294 hl (k := 6) rfl (nI_1 _) (by decide) rfl (fun ls hl => ?_)
                                    refine lv_goto (tgt := 41) hx hb dL_holds_297 (by decide) ?_
                                    have hl : lv_has ls 10 [(6, .int (nI (k + 1))), (5, .int (nI (1))), (3, .int (l_sum (B 5) (k + 1))), (0, .ref (a 0)), (1, .ref (qm)), (2, .ref (qw)), (4, .int (nI (0))), (7, .int (B 5 (k))), (8, .int (nI (j)))] := by show lv_has ls 10 _; exact hl
                                    exact ih41 (k + 1) (by omega) (by omega) _ _ hP hD hS _ (lv_sub hl [3, 4, 5, 2, 6, 1, 0] rfl)
                                  · -- 269 on
                                    refine lv_aload_n hx hb dL_holds_272 rfl (lv_at hl 1 rfl) ?_
                                    refine lv_iload hx hb dL_holds_273 (lv_at hl 6 rfl) ?_
                                    refine zkW (v := dueN B (k) td) kCH F (zwCH hP hD hS hA) hK hX hZ (c_L_due_0 l D cI cZ a H.size (B) (R) (E) (td) (n) (k) (by first | assumption | omega) (by first | assumption | omega) (by first | assumption | omega)) cw_due_0 (by decide) rfl rfl hl.1 rfl (Nat.le_of_ble_eq_true rfl) dL_holds_275 ⟨Nat.le_of_ble_eq_true rfl, Nat.le_of_ble_eq_true rfl⟩ (fun H locs hP hD hS => ?_)
                                    refine lv_aload_n hx hb dL_holds_278 rfl (lv_at hl 1 rfl) ?_
                                    refine lv_iload hx hb dL_holds_279 (lv_at hl 6 rfl) ?_
                                    refine zkW (v := opn B (k)) kCH F (zwCH hP hD hS hA) hK hX hZ (c_L_open_0 l D cI cZ a H.size (B) (R) (E) (td) (n) (k) (by first | assumption | omega) (by first | assumption | omega) (by first | assumption | omega)) cw_open_0 (by decide) rfl rfl hl.1 rfl (Nat.le_of_ble_eq_true rfl) dL_holds_281 ⟨Nat.le_of_ble_eq_true rfl, Nat.le_of_ble_eq_true rfl⟩ (fun H locs hP hD hS => ?_)
                                    refine lv_icmp_ne (tgt := 291) hx hb dL_holds_284 (by decide) (fun c284 => ?_) (fun c284 => ?_)
                                    · -- 284 taken
                                      exact absurd ((P4 k (by omega)).2.2.2.2.2.2.2.resolve_left c269) c284
                                    · -- 284 on
                                      refine lv_iconst (v := nI (1)) hx hb dL_holds_287 (by decide) ?_
                                      refine lv_goto (tgt := 292) hx hb dL_holds_288 (by decide) ?_
                                      refine lv_istore (lv' := [(5, .int (nI (1))), (3, .int ((l_sum (B 5) (k)) + (B 5 (k)))), (0, .ref (a 0)), (1, .ref (qm)), (2, .ref (qw)), (4, .int (nI (0))), (6, .int (nI (k))), (7, .int (B 5 (k))), (8, .int (nI (j)))]) hx hb dL_holds_292 hl (by decide) rfl (fun ls hl => ?_)
                                      refine lv_iinc (v := nI (k + 1)) (lv' := [(6, .int (nI (k + 1))), (5, .int (nI (1))), (3, .int ((l_sum (B 5) (k)) + (B 5 (k)))), (0, .ref (a 0)), (1, .ref (qm)), (2, .ref (qw)), (4, .int (nI (0))), (7, .int (B 5 (k))), (8, .int (nI (j)))]) hx hb dL_holds_294 hl (k := 6) rfl (nI_1 _) (by decide) rfl (fun ls hl => ?_)
                                      refine lv_goto (tgt := 41) hx hb dL_holds_297 (by decide) ?_
                                      have hl : lv_has ls 10 [(6, .int (nI (k + 1))), (5, .int (nI (1))), (3, .int (l_sum (B 5) (k + 1))), (0, .ref (a 0)), (1, .ref (qm)), (2, .ref (qw)), (4, .int (nI (0))), (7, .int (B 5 (k))), (8, .int (nI (j)))] := by show lv_has ls 10 _; exact hl
                                      exact ih41 (k + 1) (by omega) (by omega) _ _ hP hD hS _ (lv_sub hl [3, 4, 5, 2, 6, 1, 0] rfl)
              · -- 67 on
                rw [nI_leI (by omega) (by omega)] at c67
                refine lv_aload_n hx hb dL_holds_70 rfl (lv_at hl 0 rfl) ?_
                refine lv_iload hx hb dL_holds_71 (lv_at hl 8 rfl) ?_
                refine lv_iload hx hb dL_holds_73 (lv_at hl 6 rfl) ?_
                refine zkW (v := R 6 (40 * (j) + (k))) kCH F (zwCH hP hD hS hA) hK hX hZ (c_L_appliedTo_0 l D cI cZ a H.size (B) (R) (E) (td) (n) (q) (j) (k) (by first | assumption | omega) (by first | assumption | omega) (by first | assumption | omega) (by first | assumption | omega) (by first | assumption | omega) (by first | assumption | omega)) cw_appliedTo_0 (by decide) rfl rfl hl.1 rfl (Nat.le_of_ble_eq_true rfl) dL_holds_75 ⟨Nat.le_of_ble_eq_true rfl, Nat.le_of_ble_eq_true rfl⟩ (fun H locs hP hD hS => ?_)
                refine lv_istore (lv' := [(9, .int (R 6 (40 * (j) + (k)))), (0, .ref (a 0)), (1, .ref (qm)), (2, .ref (qw)), (3, .int (l_sum (B 5) (k))), (4, .int (nI (0))), (5, .int (nI (1))), (6, .int (nI (k))), (7, .int (l_sum (fun j => R 6 (40 * j + (k))) (j))), (8, .int (nI (j)))]) hx hb dL_holds_78 hl (by decide) rfl (fun ls hl => ?_)
                refine lv_iload hx hb dL_holds_80 (lv_at hl 8 rfl) ?_
                refine lv_iload hx hb dL_holds_82 (lv_at hl 0 rfl) ?_
                refine lv_iadd hx hb dL_holds_84 ?_
                refine lv_istore (lv' := [(7, .int ((l_sum (fun j => R 6 (40 * j + (k))) (j)) + (R 6 (40 * (j) + (k))))), (9, .int (R 6 (40 * (j) + (k)))), (0, .ref (a 0)), (1, .ref (qm)), (2, .ref (qw)), (3, .int (l_sum (B 5) (k))), (4, .int (nI (0))), (5, .int (nI (1))), (6, .int (nI (k))), (8, .int (nI (j)))]) hx hb dL_holds_85 hl (by decide) rfl (fun ls hl => ?_)
                refine lv_iload hx hb dL_holds_87 (lv_at hl 7 rfl) ?_
                refine lv_if_eq (tgt := 128) hx hb dL_holds_89 (by decide) (fun c89 => ?_) (fun c89 => ?_)
                · -- 89 taken
                  exact absurd c89 (by decide)
                · -- 89 on
                  rw [show (0 : Int32) = nI 0 from rfl] at c89
                  rw [nI_eq (by omega) (by omega)] at c89
                  refine lv_iload hx hb dL_holds_92 (lv_at hl 1 rfl) ?_
                  refine lv_if_lt (tgt := 128) hx hb dL_holds_94 (by decide) (fun c94 => ?_) (fun c94 => ?_)
                  · -- 94 taken
                    exact absurd c94 (P2 k j (by omega) (by omega)).1
                  · -- 94 on
                    refine lv_iload hx hb dL_holds_97 (lv_at hl 1 rfl) ?_
                    refine lv_if_eq (tgt := 124) hx hb dL_holds_99 (by decide) (fun c99 => ?_) (fun c99 => ?_)
                    · -- 99 taken
                      refine lv_iconst (v := nI (1)) hx hb dL_holds_124 (by decide) ?_
                      refine lv_goto (tgt := 129) hx hb dL_holds_125 (by decide) ?_
                      refine lv_istore (lv' := [(5, .int (nI (1))), (7, .int ((l_sum (fun j => R 6 (40 * j + (k))) (j)) + (R 6 (40 * (j) + (k))))), (9, .int (R 6 (40 * (j) + (k)))), (0, .ref (a 0)), (1, .ref (qm)), (2, .ref (qw)), (3, .int (l_sum (B 5) (k))), (4, .int (nI (0))), (6, .int (nI (k))), (8, .int (nI (j)))]) hx hb dL_holds_129 hl (by decide) rfl (fun ls hl => ?_)
                      refine lv_iinc (v := nI (j + 1)) (lv' := [(8, .int (nI (j + 1))), (5, .int (nI (1))), (7, .int ((l_sum (fun j => R 6 (40 * j + (k))) (j)) + (R 6 (40 * (j) + (k))))), (9, .int (R 6 (40 * (j) + (k)))), (0, .ref (a 0)), (1, .ref (qm)), (2, .ref (qw)), (3, .int (l_sum (B 5) (k))), (4, .int (nI (0))), (6, .int (nI (k)))]) hx hb dL_holds_131 hl (k := 9) rfl (nI_1 _) (by decide) rfl (fun ls hl => ?_)
                      refine lv_goto (tgt := 61) hx hb dL_holds_134 (by decide) ?_
                      have hl : lv_has ls 10 [(8, .int (nI (j + 1))), (5, .int (nI (1))), (7, .int (l_sum (fun j => R 6 (40 * j + (k))) (j + 1))), (9, .int (R 6 (40 * (j) + (k)))), (0, .ref (a 0)), (1, .ref (qm)), (2, .ref (qw)), (3, .int (l_sum (B 5) (k))), (4, .int (nI (0))), (6, .int (nI (k)))] := by show lv_has ls 10 _; exact hl
                      exact ih61 (j + 1) (by omega) (by omega) _ _ hP hD hS _ (lv_sub hl [4, 5, 6, 7, 8, 1, 9, 2, 0] rfl)
                    · -- 99 on
                      refine lv_aload_n hx hb dL_holds_102 rfl (lv_at hl 2 rfl) ?_
                      refine lv_iload hx hb dL_holds_103 (lv_at hl 9 rfl) ?_
                      refine zkW (v := R 0 (j)) kCH F (zwCH hP hD hS hA) hK hX hZ (c_L_customer_0 l D cI cZ a H.size (B) (R) (E) (td) (q) (j) (by first | assumption | omega) (by first | assumption | omega) (by first | assumption | omega)) cw_customer_0 (by decide) rfl rfl hl.1 rfl (Nat.le_of_ble_eq_true rfl) dL_holds_105 ⟨Nat.le_of_ble_eq_true rfl, Nat.le_of_ble_eq_true rfl⟩ (fun H locs hP hD hS => ?_)
                      refine lv_aload_n hx hb dL_holds_108 rfl (lv_at hl 4 rfl) ?_
                      refine lv_iload hx hb dL_holds_109 (lv_at hl 8 rfl) ?_
                      refine zald hx hb hK hP 27 (n := 40) (f := ww) rfl (k) rfl (by omega) (by decide) dL_holds_111 ?_
                      refine lv_icmp_ne (tgt := 128) hx hb dL_holds_112 (by decide) (fun c112 => ?_) (fun c112 => ?_)
                      · -- 112 taken
                        exact absurd ((P2 k j (by omega) (by omega)).2.resolve_left c99).1 c112
                      · -- 112 on
                        refine lv_aload_n hx hb dL_holds_115 rfl (lv_at hl 2 rfl) ?_
                        refine lv_iload hx hb dL_holds_116 (lv_at hl 9 rfl) ?_
                        refine zkW (v := R 5 (j)) kCH F (zwCH hP hD hS hA) hK hX hZ (c_L_bounced_0 l D cI cZ a H.size (B) (R) (E) (td) (q) (j) (by first | assumption | omega) (by first | assumption | omega) (by first | assumption | omega) (I5 _ (by omega))) cw_bounced_0 (by decide) rfl rfl hl.1 rfl (Nat.le_of_ble_eq_true rfl) dL_holds_118 ⟨Nat.le_of_ble_eq_true rfl, Nat.le_of_ble_eq_true rfl⟩ (fun H locs hP hD hS => ?_)
                        refine lv_if_ne (tgt := 128) hx hb dL_holds_121 (by decide) (fun c121 => ?_) (fun c121 => ?_)
                        · -- 121 taken
                          exact absurd ((P2 k j (by omega) (by omega)).2.resolve_left c99).2 c121
                        · -- 121 on
                          refine lv_iconst (v := nI (1)) hx hb dL_holds_124 (by decide) ?_
                          refine lv_goto (tgt := 129) hx hb dL_holds_125 (by decide) ?_
                          refine lv_istore (lv' := [(5, .int (nI (1))), (7, .int ((l_sum (fun j => R 6 (40 * j + (k))) (j)) + (R 6 (40 * (j) + (k))))), (9, .int (R 6 (40 * (j) + (k)))), (0, .ref (a 0)), (1, .ref (qm)), (2, .ref (qw)), (3, .int (l_sum (B 5) (k))), (4, .int (nI (0))), (6, .int (nI (k))), (8, .int (nI (j)))]) hx hb dL_holds_129 hl (by decide) rfl (fun ls hl => ?_)
                          refine lv_iinc (v := nI (j + 1)) (lv' := [(8, .int (nI (j + 1))), (5, .int (nI (1))), (7, .int ((l_sum (fun j => R 6 (40 * j + (k))) (j)) + (R 6 (40 * (j) + (k))))), (9, .int (R 6 (40 * (j) + (k)))), (0, .ref (a 0)), (1, .ref (qm)), (2, .ref (qw)), (3, .int (l_sum (B 5) (k))), (4, .int (nI (0))), (6, .int (nI (k)))]) hx hb dL_holds_131 hl (k := 9) rfl (nI_1 _) (by decide) rfl (fun ls hl => ?_)
                          refine lv_goto (tgt := 61) hx hb dL_holds_134 (by decide) ?_
                          have hl : lv_has ls 10 [(8, .int (nI (j + 1))), (5, .int (nI (1))), (7, .int (l_sum (fun j => R 6 (40 * j + (k))) (j + 1))), (9, .int (R 6 (40 * (j) + (k)))), (0, .ref (a 0)), (1, .ref (qm)), (2, .ref (qw)), (3, .int (l_sum (B 5) (k))), (4, .int (nI (0))), (6, .int (nI (k)))] := by show lv_has ls 10 _; exact hl
                          exact ih61 (j + 1) (by omega) (by omega) _ _ hP hD hS _ (lv_sub hl [4, 5, 6, 7, 8, 1, 9, 2, 0] rfl)
          exact loop61 _ (0) (Nat.zero_le _) (Nat.lt_succ_self _) _ _ hP hD hS _ (lv_sub hl [2, 3, 4, 5, 6, 7, 8, 1, 0] rfl)
  exact loop41 _ (0) (Nat.zero_le _) (Nat.lt_succ_self _) _ _ hP hD hS _ (lv_sub hl [1, 2, 3, 4, 5, 6, 0] rfl)
set_option maxHeartbeats 8000000 in
set_option maxRecDepth 100000 in
theorem ho_c {p : Program} {l : Launch} {e : Env} {s : State} {m : MethodId} {args : Array Value} {below : List Frame} {meth : Method} {c : Code} {Q : State → Prop} {D : va_G} {A : Nat → Prop} {cI cZ : ClassId} {a : Nat → Nat} {B R E : Nat → Nat → Int32} {td : Int32} {qm qw : Nat} {mm ww : Nat → Int32} {H : Heap} {locs : List Loc} {ls : Array Slot} (n : Nat) (q : Nat) (F : CallFix p m c cL_holds 10 s args wsL_holds RL) (hK : va_K D vwCl (tyl cI cZ) s) (hA : ∀ q : Nat, s.heap.size ≤ q → A q) (hX : ExB s) (hZ : ExZ A s s.heap) (hfl : l.stackTraces = false) (hB : B 11 0 = nI n) (hn : n ≤ 40) (hR : R 8 0 = nI q) (hq : q ≤ 30) (I5 : ∀ j, j < q → R 5 j = 0 ∨ R 5 j = 1) (P1 : l_sum (R 1) q = l_sum (R 2) q + l_sum (R 3) q + l_sum (R 4) q + bsm R q) (P2 : ∀ k j, k < n → j < q → ¬ R 6 (40 * j + k) < 0 ∧ (R 6 (40 * j + k) = 0 ∨ (R 0 j = ww k ∧ R 5 j = 0))) (P3 : ∀ k, k < n → l_sum (fun j => R 6 (40 * j + k)) q = B 5 k) (P4 : ∀ k, k < n → ¬ opn B k < 0 ∧ ¬ B 6 k < 0 ∧ ¬ B 8 k < 0 ∧ ¬ B 10 k < 0 ∧ opn B k + B 5 k + B 6 k + B 8 k + B 10 k = mm k ∧ ¬ dueN B k td < 0 ∧ dueN B k td ≤ opn B k ∧ (opn B k = mm k ∨ dueN B k td = opn B k)) (P5 : ∀ j, j < q → ¬ R 3 j < 0 ∧ (R 5 j = 0 ∨ R 3 j = 0)) (P6 : ∀ cc, cc < 2 → oof B (nI cc) n = l_sum (fun k => if ww k = nI cc then opn B k else 0) n) (P7 : l_sum (B 5) n = l_sum (R 2) q) (hP : va_P D vwCl (wCH a cI cZ B R E (td) qm qw mm ww) H) (hD : va_D A (wCH a cI cZ B R E (td) qm qw mm ww)) (hS : va_S A s.heap H locs) (hl : lv_has ls 10 [(0, .ref (a 0)), (1, .ref (qm)), (2, .ref (qw)), (3, .int (l_sum (B 5) n)), (4, .int (nI (0))), (5, .int (nI (1)))])
    (k368 : ∀ (H : Heap) (locs : List Loc) (ls : Array Slot), va_P D vwCl (wCH a cI cZ B R E (td) qm qw mm ww) H → va_D A (wCH a cI cZ B R E (td) qm qw mm ww) → va_S A s.heap H locs → lv_has ls 10 [(0, .ref (a 0)), (1, .ref (qm)), (2, .ref (qw)), (3, .int (l_sum (B 5) n)), (4, .int (l_sum (R 3) q)), (5, .int (nI (1)))] → W p l e ({ frames := 9, cells := 0, slots := 0, locals := 190 } : Room) s m args below meth c H locs 0 0 Q (F0 m 368 ls [])) :
    W p l e ({ frames := 9, cells := 0, slots := 0, locals := 190 } : Room) s m args below meth c H locs 0 0 Q (F0 m 300 ls []) := by
  obtain ⟨hx, hb, hml, hown, hts⟩ := id F
  have cv_receipts : CallW ({ frames := 9, cells := 0, slots := 0, locals := 190 } : Room) s args RL RX3 86 yX3_receipts cX3_receipts 1 (some .int) wsX3_receipts ({ frames := 0, cells := 0, slots := 0, locals := 0 } : Room) 0 0 0 := cwV 0 hts gL_holds_X3_receipts rfl rfl rfl (by decide +kernel) ⟨Nat.le_of_ble_eq_true rfl, Nat.le_of_ble_eq_true rfl⟩
  have cw_unapplied_0 : vx_CSW ({ frames := 9, cells := 0, slots := 0, locals := 190 } : Room) s args RL 146 yL_unapplied cL_unapplied 3 (some .int) [(0, 5, 6, 13)] wsL_unapplied ({ frames := 2, cells := 0, slots := 0, locals := 42 } : Room) 0 0 2 := vx_cwSW 2 hts gL_holds_L_unapplied rfl rfl rfl (by decide +kernel) ⟨Nat.le_of_ble_eq_true rfl, Nat.le_of_ble_eq_true rfl⟩
  have cw_bounced_0 : vx_CSW ({ frames := 9, cells := 0, slots := 0, locals := 190 } : Room) s args RL 148 yL_bounced cL_bounced 3 (some .int) [(0, 13, 14, 13)] wsL_bounced ({ frames := 2, cells := 0, slots := 0, locals := 42 } : Room) 0 0 2 := vx_cwSW 2 hts gL_holds_L_bounced rfl rfl rfl (by decide +kernel) ⟨Nat.le_of_ble_eq_true rfl, Nat.le_of_ble_eq_true rfl⟩
  refine lv_iconst (v := nI (0)) hx hb dL_holds_300 (by decide) ?_
  refine lv_istore (lv' := [(6, .int (nI (0))), (0, .ref (a 0)), (1, .ref (qm)), (2, .ref (qw)), (3, .int (l_sum (B 5) n)), (4, .int (nI (0))), (5, .int (nI (1)))]) hx hb dL_holds_301 hl (by decide) rfl (fun ls hl => ?_)
  have loop303 : ∀ (fu : Nat) (j : Nat) (hj : j ≤ q) (hfu : q - j < fu) (H : Heap) (locs : List Loc) (hP : va_P D vwCl (wCH a cI cZ B R E (td) qm qw mm ww) H) (hD : va_D A (wCH a cI cZ B R E (td) qm qw mm ww)) (hS : va_S A s.heap H locs) (ls : Array Slot) (hl : lv_has ls 10 [(0, .ref (a 0)), (1, .ref (qm)), (2, .ref (qw)), (3, .int (l_sum (B 5) n)), (4, .int (l_sum (R 3) (j))), (5, .int (nI (1))), (6, .int (nI (j)))]), W p l e ({ frames := 9, cells := 0, slots := 0, locals := 190 } : Room) s m args below meth c H locs 0 0 Q (F0 m 303 ls []) := by
    clear hP hD hS hl
    intro fu303
    induction fu303 with
    | zero => intro j hj hfu; exact absurd hfu (Nat.not_lt_zero _)
    | succ fu303 ih303 =>
      intro j hj hfu H locs hP hD hS ls hl
      refine lv_iload hx hb dL_holds_303 (lv_at hl 6 rfl) ?_
      refine lv_aload_n hx hb dL_holds_305 rfl (lv_at hl 0 rfl) ?_
      refine zkV (v := R 8 0) kCH (ci := 3) (q0 := 0) F (zwCH hP hD hS hA) hK (c_X3_receipts l D cI cZ a H.size (B) (R) (E) (td) ) cv_receipts rfl rfl (by decide) rfl rfl hl.1 rfl (Nat.le_of_ble_eq_true rfl) dL_holds_306 ⟨Nat.le_of_ble_eq_true rfl, Nat.le_of_ble_eq_true rfl⟩ (fun H locs hP hD hS => ?_)
      rw [hR]
      refine lv_icmp_ge (tgt := 368) hx hb dL_holds_309 (by decide) (fun c309 => ?_) (fun c309 => ?_)
      · -- 309 taken
        rw [nI_leI (by omega) (by omega)] at c309
        have hl : lv_has ls 10 [(0, .ref (a 0)), (1, .ref (qm)), (2, .ref (qw)), (3, .int (l_sum (B 5) n)), (4, .int (l_sum (R 3) q)), (5, .int (nI (1))), (6, .int (nI (j)))] := by rw [show q = j by omega]; exact hl
        exact k368  _ _ _ hP hD hS (lv_sub hl [0, 1, 2, 3, 4, 5] rfl)
      · -- 309 on
        rw [nI_leI (by omega) (by omega)] at c309
        refine lv_iload hx hb dL_holds_312 (lv_at hl 5 rfl) ?_
        refine lv_if_eq (tgt := 368) hx hb dL_holds_314 (by decide) (fun c314 => ?_) (fun c314 => ?_)
        · -- 314 taken
          exact absurd c314 (by decide)
        · -- 314 on
          rw [show (0 : Int32) = nI 0 from rfl] at c314
          rw [nI_eq (by omega) (by omega)] at c314
          refine lv_iload hx hb dL_holds_317 (lv_at hl 4 rfl) ?_
          refine lv_aload_n hx hb dL_holds_319 rfl (lv_at hl 0 rfl) ?_
          refine lv_iload hx hb dL_holds_320 (lv_at hl 6 rfl) ?_
          refine zkW (v := R 3 (j)) kCH F (zwCH hP hD hS hA) hK hX hZ (c_L_unapplied_0 l D cI cZ a H.size (B) (R) (E) (td) (q) (j) (by first | assumption | omega) (by first | assumption | omega) (by first | assumption | omega)) cw_unapplied_0 (by decide) rfl rfl hl.1 rfl (Nat.le_of_ble_eq_true rfl) dL_holds_322 ⟨Nat.le_of_ble_eq_true rfl, Nat.le_of_ble_eq_true rfl⟩ (fun H locs hP hD hS => ?_)
          refine lv_iadd hx hb dL_holds_325 ?_
          refine lv_istore (lv' := [(4, .int ((l_sum (R 3) (j)) + (R 3 (j)))), (0, .ref (a 0)), (1, .ref (qm)), (2, .ref (qw)), (3, .int (l_sum (B 5) n)), (5, .int (nI (1))), (6, .int (nI (j)))]) hx hb dL_holds_326 hl (by decide) rfl (fun ls hl => ?_)
          refine lv_aload_n hx hb dL_holds_328 rfl (lv_at hl 1 rfl) ?_
          refine lv_iload hx hb dL_holds_329 (lv_at hl 6 rfl) ?_
          refine zkW (v := R 3 (j)) kCH F (zwCH hP hD hS hA) hK hX hZ (c_L_unapplied_0 l D cI cZ a H.size (B) (R) (E) (td) (q) (j) (by first | assumption | omega) (by first | assumption | omega) (by first | assumption | omega)) cw_unapplied_0 (by decide) rfl rfl hl.1 rfl (Nat.le_of_ble_eq_true rfl) dL_holds_331 ⟨Nat.le_of_ble_eq_true rfl, Nat.le_of_ble_eq_true rfl⟩ (fun H locs hP hD hS => ?_)
          refine lv_if_lt (tgt := 359) hx hb dL_holds_334 (by decide) (fun c334 => ?_) (fun c334 => ?_)
          · -- 334 taken
            exact absurd c334 (P5 j (by omega)).1
          · -- 334 on
            refine lv_aload_n hx hb dL_holds_337 rfl (lv_at hl 1 rfl) ?_
            refine lv_iload hx hb dL_holds_338 (lv_at hl 6 rfl) ?_
            refine zkW (v := R 5 (j)) kCH F (zwCH hP hD hS hA) hK hX hZ (c_L_bounced_0 l D cI cZ a H.size (B) (R) (E) (td) (q) (j) (by first | assumption | omega) (by first | assumption | omega) (by first | assumption | omega) (I5 _ (by omega))) cw_bounced_0 (by decide) rfl rfl hl.1 rfl (Nat.le_of_ble_eq_true rfl) dL_holds_340 ⟨Nat.le_of_ble_eq_true rfl, Nat.le_of_ble_eq_true rfl⟩ (fun H locs hP hD hS => ?_)
            refine lv_if_eq (tgt := 355) hx hb dL_holds_343 (by decide) (fun c343 => ?_) (fun c343 => ?_)
            · -- 343 taken
              refine lv_iconst (v := nI (1)) hx hb dL_holds_355 (by decide) ?_
              refine lv_goto (tgt := 360) hx hb dL_holds_356 (by decide) ?_
              refine lv_istore (lv' := [(5, .int (nI (1))), (4, .int ((l_sum (R 3) (j)) + (R 3 (j)))), (0, .ref (a 0)), (1, .ref (qm)), (2, .ref (qw)), (3, .int (l_sum (B 5) n)), (6, .int (nI (j)))]) hx hb dL_holds_360 hl (by decide) rfl (fun ls hl => ?_)
              refine lv_iinc (v := nI (j + 1)) (lv' := [(6, .int (nI (j + 1))), (5, .int (nI (1))), (4, .int ((l_sum (R 3) (j)) + (R 3 (j)))), (0, .ref (a 0)), (1, .ref (qm)), (2, .ref (qw)), (3, .int (l_sum (B 5) n))]) hx hb dL_holds_362 hl (k := 6) rfl (nI_1 _) (by decide) rfl (fun ls hl => ?_)
              refine lv_goto (tgt := 303) hx hb dL_holds_365 (by decide) ?_
              have hl : lv_has ls 10 [(6, .int (nI (j + 1))), (5, .int (nI (1))), (4, .int (l_sum (R 3) (j + 1))), (0, .ref (a 0)), (1, .ref (qm)), (2, .ref (qw)), (3, .int (l_sum (B 5) n))] := by show lv_has ls 10 _; exact hl
              exact ih303 (j + 1) (by omega) (by omega) _ _ hP hD hS _ (lv_sub hl [3, 4, 5, 6, 2, 1, 0] rfl)
            · -- 343 on
              refine lv_aload_n hx hb dL_holds_346 rfl (lv_at hl 1 rfl) ?_
              refine lv_iload hx hb dL_holds_347 (lv_at hl 6 rfl) ?_
              refine zkW (v := R 3 (j)) kCH F (zwCH hP hD hS hA) hK hX hZ (c_L_unapplied_0 l D cI cZ a H.size (B) (R) (E) (td) (q) (j) (by first | assumption | omega) (by first | assumption | omega) (by first | assumption | omega)) cw_unapplied_0 (by decide) rfl rfl hl.1 rfl (Nat.le_of_ble_eq_true rfl) dL_holds_349 ⟨Nat.le_of_ble_eq_true rfl, Nat.le_of_ble_eq_true rfl⟩ (fun H locs hP hD hS => ?_)
              refine lv_if_ne (tgt := 359) hx hb dL_holds_352 (by decide) (fun c352 => ?_) (fun c352 => ?_)
              · -- 352 taken
                exact absurd ((P5 j (by omega)).2.resolve_left c343) c352
              · -- 352 on
                refine lv_iconst (v := nI (1)) hx hb dL_holds_355 (by decide) ?_
                refine lv_goto (tgt := 360) hx hb dL_holds_356 (by decide) ?_
                refine lv_istore (lv' := [(5, .int (nI (1))), (4, .int ((l_sum (R 3) (j)) + (R 3 (j)))), (0, .ref (a 0)), (1, .ref (qm)), (2, .ref (qw)), (3, .int (l_sum (B 5) n)), (6, .int (nI (j)))]) hx hb dL_holds_360 hl (by decide) rfl (fun ls hl => ?_)
                refine lv_iinc (v := nI (j + 1)) (lv' := [(6, .int (nI (j + 1))), (5, .int (nI (1))), (4, .int ((l_sum (R 3) (j)) + (R 3 (j)))), (0, .ref (a 0)), (1, .ref (qm)), (2, .ref (qw)), (3, .int (l_sum (B 5) n))]) hx hb dL_holds_362 hl (k := 6) rfl (nI_1 _) (by decide) rfl (fun ls hl => ?_)
                refine lv_goto (tgt := 303) hx hb dL_holds_365 (by decide) ?_
                have hl : lv_has ls 10 [(6, .int (nI (j + 1))), (5, .int (nI (1))), (4, .int (l_sum (R 3) (j + 1))), (0, .ref (a 0)), (1, .ref (qm)), (2, .ref (qw)), (3, .int (l_sum (B 5) n))] := by show lv_has ls 10 _; exact hl
                exact ih303 (j + 1) (by omega) (by omega) _ _ hP hD hS _ (lv_sub hl [3, 4, 5, 6, 2, 1, 0] rfl)
  exact loop303 _ (0) (Nat.zero_le _) (Nat.lt_succ_self _) _ _ hP hD hS _ (lv_sub hl [1, 2, 3, 4, 5, 6, 0] rfl)
set_option maxHeartbeats 8000000 in
set_option maxRecDepth 100000 in
theorem ho_d {p : Program} {l : Launch} {e : Env} {s : State} {m : MethodId} {args : Array Value} {below : List Frame} {meth : Method} {c : Code} {Q : State → Prop} {D : va_G} {A : Nat → Prop} {cI cZ : ClassId} {a : Nat → Nat} {B R E : Nat → Nat → Int32} {td : Int32} {qm qw : Nat} {mm ww : Nat → Int32} {H : Heap} {locs : List Loc} {ls : Array Slot} (n : Nat) (q : Nat) (F : CallFix p m c cL_holds 10 s args wsL_holds RL) (hK : va_K D vwCl (tyl cI cZ) s) (hA : ∀ q : Nat, s.heap.size ≤ q → A q) (hX : ExB s) (hZ : ExZ A s s.heap) (hfl : l.stackTraces = false) (hB : B 11 0 = nI n) (hn : n ≤ 40) (hR : R 8 0 = nI q) (hq : q ≤ 30) (I5 : ∀ j, j < q → R 5 j = 0 ∨ R 5 j = 1) (P1 : l_sum (R 1) q = l_sum (R 2) q + l_sum (R 3) q + l_sum (R 4) q + bsm R q) (P2 : ∀ k j, k < n → j < q → ¬ R 6 (40 * j + k) < 0 ∧ (R 6 (40 * j + k) = 0 ∨ (R 0 j = ww k ∧ R 5 j = 0))) (P3 : ∀ k, k < n → l_sum (fun j => R 6 (40 * j + k)) q = B 5 k) (P4 : ∀ k, k < n → ¬ opn B k < 0 ∧ ¬ B 6 k < 0 ∧ ¬ B 8 k < 0 ∧ ¬ B 10 k < 0 ∧ opn B k + B 5 k + B 6 k + B 8 k + B 10 k = mm k ∧ ¬ dueN B k td < 0 ∧ dueN B k td ≤ opn B k ∧ (opn B k = mm k ∨ dueN B k td = opn B k)) (P5 : ∀ j, j < q → ¬ R 3 j < 0 ∧ (R 5 j = 0 ∨ R 3 j = 0)) (P6 : ∀ cc, cc < 2 → oof B (nI cc) n = l_sum (fun k => if ww k = nI cc then opn B k else 0) n) (P7 : l_sum (B 5) n = l_sum (R 2) q) (hP : va_P D vwCl (wCH a cI cZ B R E (td) qm qw mm ww) H) (hD : va_D A (wCH a cI cZ B R E (td) qm qw mm ww)) (hS : va_S A s.heap H locs) (hl : lv_has ls 10 [(0, .ref (a 0)), (1, .ref (qm)), (2, .ref (qw)), (3, .int (l_sum (B 5) n)), (4, .int (l_sum (R 3) q)), (5, .int (nI (1)))])
    (k451 : ∀ (H : Heap) (locs : List Loc) (ls : Array Slot), va_P D vwCl (wCH a cI cZ B R E (td) qm qw mm ww) H → va_D A (wCH a cI cZ B R E (td) qm qw mm ww) → va_S A s.heap H locs → lv_has ls 10 [(0, .ref (a 0)), (1, .ref (qm)), (2, .ref (qw)), (3, .int (l_sum (B 5) n)), (4, .int (l_sum (R 3) q)), (5, .int (nI (1)))] → W p l e ({ frames := 9, cells := 0, slots := 0, locals := 190 } : Room) s m args below meth c H locs 0 0 Q (F0 m 451 ls [])) :
    W p l e ({ frames := 9, cells := 0, slots := 0, locals := 190 } : Room) s m args below meth c H locs 0 0 Q (F0 m 368 ls []) := by
  obtain ⟨hx, hb, hml, hown, hts⟩ := id F
  have cv_bills : CallW ({ frames := 9, cells := 0, slots := 0, locals := 190 } : Room) s args RL RX3 90 yX3_bills cX3_bills 1 (some .int) wsX3_bills ({ frames := 0, cells := 0, slots := 0, locals := 0 } : Room) 0 0 0 := cwV 0 hts gL_holds_X3_bills rfl rfl rfl (by decide +kernel) ⟨Nat.le_of_ble_eq_true rfl, Nat.le_of_ble_eq_true rfl⟩
  have cw_openOf_0 : vx_CSW ({ frames := 9, cells := 0, slots := 0, locals := 190 } : Room) s args RL 137 yL_openOf cL_openOf 3 (some .int) [(0, 5, 6, 13)] wsL_openOf ({ frames := 2, cells := 0, slots := 0, locals := 44 } : Room) 0 0 2 := vx_cwSW 2 hts gL_holds_L_openOf rfl rfl rfl (by decide +kernel) ⟨Nat.le_of_ble_eq_true rfl, Nat.le_of_ble_eq_true rfl⟩
  have cw_open_0 : vx_CSW ({ frames := 9, cells := 0, slots := 0, locals := 190 } : Room) s args RL 124 yL_open cL_open 3 (some .int) [(0, 5, 6, 13)] wsL_open ({ frames := 2, cells := 0, slots := 0, locals := 42 } : Room) 0 0 2 := vx_cwSW 2 hts gL_holds_L_open rfl rfl rfl (by decide +kernel) ⟨Nat.le_of_ble_eq_true rfl, Nat.le_of_ble_eq_true rfl⟩
  refine lv_iconst (v := nI (0)) hx hb dL_holds_368 (by decide) ?_
  refine lv_istore (lv' := [(6, .int (nI (0))), (0, .ref (a 0)), (1, .ref (qm)), (2, .ref (qw)), (3, .int (l_sum (B 5) n)), (4, .int (l_sum (R 3) q)), (5, .int (nI (1)))]) hx hb dL_holds_369 hl (by decide) rfl (fun ls hl => ?_)
  have loop371 : ∀ (fu : Nat) (cc : Nat) (hcc : cc ≤ 2) (hfu : 2 - cc < fu) (H : Heap) (locs : List Loc) (hP : va_P D vwCl (wCH a cI cZ B R E (td) qm qw mm ww) H) (hD : va_D A (wCH a cI cZ B R E (td) qm qw mm ww)) (hS : va_S A s.heap H locs) (ls : Array Slot) (hl : lv_has ls 10 [(0, .ref (a 0)), (1, .ref (qm)), (2, .ref (qw)), (3, .int (l_sum (B 5) n)), (4, .int (l_sum (R 3) q)), (5, .int (nI (1))), (6, .int (nI (cc)))]), W p l e ({ frames := 9, cells := 0, slots := 0, locals := 190 } : Room) s m args below meth c H locs 0 0 Q (F0 m 371 ls []) := by
    clear hP hD hS hl
    intro fu371
    induction fu371 with
    | zero => intro cc hcc hfu; exact absurd hfu (Nat.not_lt_zero _)
    | succ fu371 ih371 =>
      intro cc hcc hfu H locs hP hD hS ls hl
      refine lv_iload hx hb dL_holds_371 (lv_at hl 6 rfl) ?_
      refine lv_iconst (v := nI (2)) hx hb dL_holds_373 (by decide) ?_
      refine lv_icmp_ge (tgt := 451) hx hb dL_holds_374 (by decide) (fun c374 => ?_) (fun c374 => ?_)
      · -- 374 taken
        rw [nI_leI (by omega) (by omega)] at c374
        exact k451  _ _ _ hP hD hS (lv_sub hl [0, 1, 2, 3, 4, 5] rfl)
      · -- 374 on
        rw [nI_leI (by omega) (by omega)] at c374
        refine lv_iload hx hb dL_holds_377 (lv_at hl 5 rfl) ?_
        refine lv_if_eq (tgt := 451) hx hb dL_holds_379 (by decide) (fun c379 => ?_) (fun c379 => ?_)
        · -- 379 taken
          exact absurd c379 (by decide)
        · -- 379 on
          rw [show (0 : Int32) = nI 0 from rfl] at c379
          rw [nI_eq (by omega) (by omega)] at c379
          refine lv_iconst (v := nI (0)) hx hb dL_holds_382 (by decide) ?_
          refine lv_istore (lv' := [(7, .int (nI (0))), (0, .ref (a 0)), (1, .ref (qm)), (2, .ref (qw)), (3, .int (l_sum (B 5) n)), (4, .int (l_sum (R 3) q)), (5, .int (nI (1))), (6, .int (nI (cc)))]) hx hb dL_holds_383 hl (by decide) rfl (fun ls hl => ?_)
          refine lv_iconst (v := nI (0)) hx hb dL_holds_385 (by decide) ?_
          refine lv_istore (lv' := [(8, .int (nI (0))), (7, .int (nI (0))), (0, .ref (a 0)), (1, .ref (qm)), (2, .ref (qw)), (3, .int (l_sum (B 5) n)), (4, .int (l_sum (R 3) q)), (5, .int (nI (1))), (6, .int (nI (cc)))]) hx hb dL_holds_386 hl (by decide) rfl (fun ls hl => ?_)
          have loop388 : ∀ (fu : Nat) (k : Nat) (hk : k ≤ n) (hfu : n - k < fu) (H : Heap) (locs : List Loc) (hP : va_P D vwCl (wCH a cI cZ B R E (td) qm qw mm ww) H) (hD : va_D A (wCH a cI cZ B R E (td) qm qw mm ww)) (hS : va_S A s.heap H locs) (ls : Array Slot) (hl : lv_has ls 10 [(0, .ref (a 0)), (1, .ref (qm)), (2, .ref (qw)), (3, .int (l_sum (B 5) n)), (4, .int (l_sum (R 3) q)), (5, .int (nI (1))), (6, .int (nI (cc))), (7, .int (l_sum (fun k => if ww k = nI (cc) then opn B k else 0) (k))), (8, .int (nI (k)))]), W p l e ({ frames := 9, cells := 0, slots := 0, locals := 190 } : Room) s m args below meth c H locs 0 0 Q (F0 m 388 ls []) := by
            clear hP hD hS hl
            intro fu388
            induction fu388 with
            | zero => intro k hk hfu; exact absurd hfu (Nat.not_lt_zero _)
            | succ fu388 ih388 =>
              intro k hk hfu H locs hP hD hS ls hl
              refine lv_iload hx hb dL_holds_388 (lv_at hl 8 rfl) ?_
              refine lv_aload_n hx hb dL_holds_390 rfl (lv_at hl 0 rfl) ?_
              refine zkV (v := B 11 0) kCH (ci := 3) (q0 := 0) F (zwCH hP hD hS hA) hK (c_X3_bills l D cI cZ a H.size (B) (R) (E) (td) ) cv_bills rfl rfl (by decide) rfl rfl hl.1 rfl (Nat.le_of_ble_eq_true rfl) dL_holds_391 ⟨Nat.le_of_ble_eq_true rfl, Nat.le_of_ble_eq_true rfl⟩ (fun H locs hP hD hS => ?_)
              rw [hB]
              refine lv_icmp_ge (tgt := 427) hx hb dL_holds_394 (by decide) (fun c394 => ?_) (fun c394 => ?_)
              · -- 394 taken
                rw [nI_leI (by omega) (by omega)] at c394
                have hl : lv_has ls 10 [(0, .ref (a 0)), (1, .ref (qm)), (2, .ref (qw)), (3, .int (l_sum (B 5) n)), (4, .int (l_sum (R 3) q)), (5, .int (nI (1))), (6, .int (nI (cc))), (7, .int (l_sum (fun k => if ww k = nI (cc) then opn B k else 0) n)), (8, .int (nI (k)))] := by rw [show l_sum (fun k => if ww k = nI (cc) then opn B k else 0) n = l_sum (fun k => if ww k = nI (cc) then opn B k else 0) k from congrArg _ (by omega)]; exact hl
                refine lv_aload_n hx hb dL_holds_427 rfl (lv_at hl 0 rfl) ?_
                refine lv_iload hx hb dL_holds_428 (lv_at hl 6 rfl) ?_
                refine zkW (v := oof B (nI (cc)) n) kCH F (zwCH hP hD hS hA) hK hX hZ (c_L_openOf_0 l D cI cZ a H.size (B) (R) (E) (td) (n) (nI (cc)) (by first | assumption | omega) (by first | assumption | omega) (nI_pos (by omega)) (nI_lt (b := 8) (by omega) (by decide))) cw_openOf_0 (by decide) rfl rfl hl.1 rfl (Nat.le_of_ble_eq_true rfl) dL_holds_430 ⟨Nat.le_of_ble_eq_true rfl, Nat.le_of_ble_eq_true rfl⟩ (fun H locs hP hD hS => ?_)
                refine lv_iload hx hb dL_holds_433 (lv_at hl 7 rfl) ?_
                refine lv_icmp_ne (tgt := 442) hx hb dL_holds_435 (by decide) (fun c435 => ?_) (fun c435 => ?_)
                · -- 435 taken
                  exact absurd (P6 cc (by omega)) c435
                · -- 435 on
                  refine lv_iconst (v := nI (1)) hx hb dL_holds_438 (by decide) ?_
                  refine lv_goto (tgt := 443) hx hb dL_holds_439 (by decide) ?_
                  refine lv_istore (lv' := [(5, .int (nI (1))), (0, .ref (a 0)), (1, .ref (qm)), (2, .ref (qw)), (3, .int (l_sum (B 5) n)), (4, .int (l_sum (R 3) q)), (6, .int (nI (cc))), (7, .int (l_sum (fun k => if ww k = nI (cc) then opn B k else 0) n)), (8, .int (nI (k)))]) hx hb dL_holds_443 hl (by decide) rfl (fun ls hl => ?_)
                  refine lv_iinc (v := nI (cc + 1)) (lv' := [(6, .int (nI (cc + 1))), (5, .int (nI (1))), (0, .ref (a 0)), (1, .ref (qm)), (2, .ref (qw)), (3, .int (l_sum (B 5) n)), (4, .int (l_sum (R 3) q)), (7, .int (l_sum (fun k => if ww k = nI (cc) then opn B k else 0) n)), (8, .int (nI (k)))]) hx hb dL_holds_445 hl (k := 6) rfl (nI_1 _) (by decide) rfl (fun ls hl => ?_)
                  refine lv_goto (tgt := 371) hx hb dL_holds_448 (by decide) ?_
                  exact ih371 (cc + 1) (by omega) (by omega) _ _ hP hD hS _ (lv_sub hl [2, 3, 4, 5, 6, 1, 0] rfl)
              · -- 394 on
                rw [nI_leI (by omega) (by omega)] at c394
                refine lv_iload hx hb dL_holds_397 (lv_at hl 7 rfl) ?_
                refine lv_aload_n hx hb dL_holds_399 rfl (lv_at hl 2 rfl) ?_
                refine lv_iload hx hb dL_holds_400 (lv_at hl 8 rfl) ?_
                refine zald hx hb hK hP 27 (n := 40) (f := ww) rfl (k) rfl (by omega) (by decide) dL_holds_402 ?_
                refine lv_iload hx hb dL_holds_403 (lv_at hl 6 rfl) ?_
                refine lv_icmp_ne (tgt := 417) hx hb dL_holds_405 (by decide) (fun c405 => ?_) (fun c405 => ?_)
                · -- 405 taken
                  refine lv_iconst (v := nI (0)) hx hb dL_holds_417 (by decide) ?_
                  refine lv_iadd hx hb dL_holds_418 ?_
                  refine lv_istore (lv' := [(7, .int ((l_sum (fun k => if ww k = nI (cc) then opn B k else 0) (k)) + (nI (0)))), (0, .ref (a 0)), (1, .ref (qm)), (2, .ref (qw)), (3, .int (l_sum (B 5) n)), (4, .int (l_sum (R 3) q)), (5, .int (nI (1))), (6, .int (nI (cc))), (8, .int (nI (k)))]) hx hb dL_holds_419 hl (by decide) rfl (fun ls hl => ?_)
                  refine lv_iinc (v := nI (k + 1)) (lv' := [(8, .int (nI (k + 1))), (7, .int ((l_sum (fun k => if ww k = nI (cc) then opn B k else 0) (k)) + (nI (0)))), (0, .ref (a 0)), (1, .ref (qm)), (2, .ref (qw)), (3, .int (l_sum (B 5) n)), (4, .int (l_sum (R 3) q)), (5, .int (nI (1))), (6, .int (nI (cc)))]) hx hb dL_holds_421 hl (k := 8) rfl (nI_1 _) (by decide) rfl (fun ls hl => ?_)
                  refine lv_goto (tgt := 388) hx hb dL_holds_424 (by decide) ?_
                  have hl : lv_has ls 10 [(8, .int (nI (k + 1))), (7, .int (l_sum (fun k => if ww k = nI (cc) then opn B k else 0) (k + 1))), (0, .ref (a 0)), (1, .ref (qm)), (2, .ref (qw)), (3, .int (l_sum (B 5) n)), (4, .int (l_sum (R 3) q)), (5, .int (nI (1))), (6, .int (nI (cc)))] := by rw [show l_sum (fun k => if ww k = nI (cc) then opn B k else 0) (k + 1) = l_sum (fun k => if ww k = nI (cc) then opn B k else 0) k + (if ww k = nI (cc) then opn B k else 0) from rfl, if_neg c405]; exact hl
                  exact ih388 (k + 1) (by omega) (by omega) _ _ hP hD hS _ (lv_sub hl [2, 3, 4, 5, 6, 7, 8, 1, 0] rfl)
                · -- 405 on
                  refine lv_aload_n hx hb dL_holds_408 rfl (lv_at hl 0 rfl) ?_
                  refine lv_iload hx hb dL_holds_409 (lv_at hl 8 rfl) ?_
                  refine zkW (v := opn B (k)) kCH F (zwCH hP hD hS hA) hK hX hZ (c_L_open_0 l D cI cZ a H.size (B) (R) (E) (td) (n) (k) (by first | assumption | omega) (by first | assumption | omega) (by first | assumption | omega)) cw_open_0 (by decide) rfl rfl hl.1 rfl (Nat.le_of_ble_eq_true rfl) dL_holds_411 ⟨Nat.le_of_ble_eq_true rfl, Nat.le_of_ble_eq_true rfl⟩ (fun H locs hP hD hS => ?_)
                  refine lv_goto (tgt := 418) hx hb dL_holds_414 (by decide) ?_
                  refine lv_iadd hx hb dL_holds_418 ?_
                  refine lv_istore (lv' := [(7, .int ((l_sum (fun k => if ww k = nI (cc) then opn B k else 0) (k)) + (opn B (k)))), (0, .ref (a 0)), (1, .ref (qm)), (2, .ref (qw)), (3, .int (l_sum (B 5) n)), (4, .int (l_sum (R 3) q)), (5, .int (nI (1))), (6, .int (nI (cc))), (8, .int (nI (k)))]) hx hb dL_holds_419 hl (by decide) rfl (fun ls hl => ?_)
                  refine lv_iinc (v := nI (k + 1)) (lv' := [(8, .int (nI (k + 1))), (7, .int ((l_sum (fun k => if ww k = nI (cc) then opn B k else 0) (k)) + (opn B (k)))), (0, .ref (a 0)), (1, .ref (qm)), (2, .ref (qw)), (3, .int (l_sum (B 5) n)), (4, .int (l_sum (R 3) q)), (5, .int (nI (1))), (6, .int (nI (cc)))]) hx hb dL_holds_421 hl (k := 8) rfl (nI_1 _) (by decide) rfl (fun ls hl => ?_)
                  refine lv_goto (tgt := 388) hx hb dL_holds_424 (by decide) ?_
                  have hl : lv_has ls 10 [(8, .int (nI (k + 1))), (7, .int (l_sum (fun k => if ww k = nI (cc) then opn B k else 0) (k + 1))), (0, .ref (a 0)), (1, .ref (qm)), (2, .ref (qw)), (3, .int (l_sum (B 5) n)), (4, .int (l_sum (R 3) q)), (5, .int (nI (1))), (6, .int (nI (cc)))] := by rw [show l_sum (fun k => if ww k = nI (cc) then opn B k else 0) (k + 1) = l_sum (fun k => if ww k = nI (cc) then opn B k else 0) k + (if ww k = nI (cc) then opn B k else 0) from rfl, if_pos c405]; exact hl
                  exact ih388 (k + 1) (by omega) (by omega) _ _ hP hD hS _ (lv_sub hl [2, 3, 4, 5, 6, 7, 8, 1, 0] rfl)
          exact loop388 _ (0) (Nat.zero_le _) (Nat.lt_succ_self _) _ _ hP hD hS _ (lv_sub hl [2, 3, 4, 5, 6, 7, 8, 1, 0] rfl)
  exact loop371 _ (0) (Nat.zero_le _) (Nat.lt_succ_self _) _ _ hP hD hS _ (lv_sub hl [1, 2, 3, 4, 5, 6, 0] rfl)
set_option maxHeartbeats 8000000 in
set_option maxRecDepth 100000 in
theorem ho_e {p : Program} {l : Launch} {e : Env} {s : State} {m : MethodId} {args : Array Value} {below : List Frame} {meth : Method} {c : Code} {Q : State → Prop} {D : va_G} {A : Nat → Prop} {cI cZ : ClassId} {a : Nat → Nat} {B R E : Nat → Nat → Int32} {td : Int32} {qm qw : Nat} {mm ww : Nat → Int32} {H : Heap} {locs : List Loc} {ls : Array Slot} (n : Nat) (q : Nat) (F : CallFix p m c cL_holds 10 s args wsL_holds RL) (hK : va_K D vwCl (tyl cI cZ) s) (hA : ∀ q : Nat, s.heap.size ≤ q → A q) (hX : ExB s) (hZ : ExZ A s s.heap) (hfl : l.stackTraces = false) (hB : B 11 0 = nI n) (hn : n ≤ 40) (hR : R 8 0 = nI q) (hq : q ≤ 30) (I5 : ∀ j, j < q → R 5 j = 0 ∨ R 5 j = 1) (P1 : l_sum (R 1) q = l_sum (R 2) q + l_sum (R 3) q + l_sum (R 4) q + bsm R q) (P2 : ∀ k j, k < n → j < q → ¬ R 6 (40 * j + k) < 0 ∧ (R 6 (40 * j + k) = 0 ∨ (R 0 j = ww k ∧ R 5 j = 0))) (P3 : ∀ k, k < n → l_sum (fun j => R 6 (40 * j + k)) q = B 5 k) (P4 : ∀ k, k < n → ¬ opn B k < 0 ∧ ¬ B 6 k < 0 ∧ ¬ B 8 k < 0 ∧ ¬ B 10 k < 0 ∧ opn B k + B 5 k + B 6 k + B 8 k + B 10 k = mm k ∧ ¬ dueN B k td < 0 ∧ dueN B k td ≤ opn B k ∧ (opn B k = mm k ∨ dueN B k td = opn B k)) (P5 : ∀ j, j < q → ¬ R 3 j < 0 ∧ (R 5 j = 0 ∨ R 3 j = 0)) (P6 : ∀ cc, cc < 2 → oof B (nI cc) n = l_sum (fun k => if ww k = nI cc then opn B k else 0) n) (P7 : l_sum (B 5) n = l_sum (R 2) q) (hP : va_P D vwCl (wCH a cI cZ B R E (td) qm qw mm ww) H) (hD : va_D A (wCH a cI cZ B R E (td) qm qw mm ww)) (hS : va_S A s.heap H locs) (hl : lv_has ls 10 [(0, .ref (a 0)), (1, .ref (qm)), (2, .ref (qw)), (3, .int (l_sum (B 5) n)), (4, .int (l_sum (R 3) q)), (5, .int (nI (1)))])
    (k478 : ∀ (H : Heap) (locs : List Loc) (ls : Array Slot), va_P D vwCl (wCH a cI cZ B R E (td) qm qw mm ww) H → va_D A (wCH a cI cZ B R E (td) qm qw mm ww) → va_S A s.heap H locs → lv_has ls 10 [(0, .ref (a 0)), (1, .ref (qm)), (2, .ref (qw))] → W p l e ({ frames := 9, cells := 0, slots := 0, locals := 190 } : Room) s m args below meth c H locs 0 0 Q (F0 m 478 ls [.int (nI (1))])) :
    W p l e ({ frames := 9, cells := 0, slots := 0, locals := 190 } : Room) s m args below meth c H locs 0 0 Q (F0 m 451 ls []) := by
  obtain ⟨hx, hb, hml, hown, hts⟩ := id F
  have cv_applied : CallW ({ frames := 9, cells := 0, slots := 0, locals := 190 } : Room) s args RL RX3 157 yX3_applied cX3_applied 1 (some .int) wsX3_applied ({ frames := 1, cells := 0, slots := 0, locals := 23 } : Room) 0 0 0 := cwV 0 hts gL_holds_X3_applied rfl rfl rfl (by decide +kernel) ⟨Nat.le_of_ble_eq_true rfl, Nat.le_of_ble_eq_true rfl⟩
  have cv_allUnapplied : CallW ({ frames := 9, cells := 0, slots := 0, locals := 190 } : Room) s args RL RX3 160 yX3_allUnapplied cX3_allUnapplied 1 (some .int) wsX3_allUnapplied ({ frames := 1, cells := 0, slots := 0, locals := 23 } : Room) 0 0 0 := cwV 0 hts gL_holds_X3_allUnapplied rfl rfl rfl (by decide +kernel) ⟨Nat.le_of_ble_eq_true rfl, Nat.le_of_ble_eq_true rfl⟩
  refine lv_iload hx hb dL_holds_451 (lv_at hl 5 rfl) ?_
  refine lv_if_eq (tgt := 477) hx hb dL_holds_453 (by decide) (fun c453 => ?_) (fun c453 => ?_)
  · -- 453 taken
    exact absurd c453 (by decide)
  · -- 453 on
    rw [show (0 : Int32) = nI 0 from rfl] at c453
    rw [nI_eq (by omega) (by omega)] at c453
    refine lv_iload_n hx hb dL_holds_456 rfl (lv_at hl 3 rfl) ?_
    refine lv_aload_n hx hb dL_holds_457 rfl (lv_at hl 0 rfl) ?_
    refine zkV (v := l_sum (R 2) q) kCH (ci := 3) (q0 := 0) F (zwCH hP hD hS hA) hK (c_X3_applied l D cI cZ a H.size (B) (R) (E) (td) (q) (by first | assumption | omega) (by first | assumption | omega)) cv_applied rfl rfl (by decide) rfl rfl hl.1 rfl (Nat.le_of_ble_eq_true rfl) dL_holds_458 ⟨Nat.le_of_ble_eq_true rfl, Nat.le_of_ble_eq_true rfl⟩ (fun H locs hP hD hS => ?_)
    refine lv_icmp_ne (tgt := 477) hx hb dL_holds_461 (by decide) (fun c461 => ?_) (fun c461 => ?_)
    · -- 461 taken
      exact absurd P7 c461
    · -- 461 on
      refine lv_iload hx hb dL_holds_464 (lv_at hl 4 rfl) ?_
      refine lv_aload_n hx hb dL_holds_466 rfl (lv_at hl 0 rfl) ?_
      refine zkV (v := l_sum (R 3) q) kCH (ci := 3) (q0 := 0) F (zwCH hP hD hS hA) hK (c_X3_allUnapplied l D cI cZ a H.size (B) (R) (E) (td) (q) (by first | assumption | omega) (by first | assumption | omega)) cv_allUnapplied rfl rfl (by decide) rfl rfl hl.1 rfl (Nat.le_of_ble_eq_true rfl) dL_holds_467 ⟨Nat.le_of_ble_eq_true rfl, Nat.le_of_ble_eq_true rfl⟩ (fun H locs hP hD hS => ?_)
      refine lv_icmp_ne (tgt := 477) hx hb dL_holds_470 (by decide) (fun c470 => ?_) (fun c470 => ?_)
      · -- 470 taken
        exact absurd rfl c470
      · -- 470 on
        refine lv_iconst (v := nI (1)) hx hb dL_holds_473 (by decide) ?_
        refine lv_goto (tgt := 478) hx hb dL_holds_474 (by decide) ?_
        exact k478  _ _ _ hP hD hS (lv_sub hl [0, 1, 2] rfl)
set_option maxHeartbeats 8000000 in
set_option maxRecDepth 100000 in
theorem c_L_holds (l : Launch) (hfl : l.stackTraces = false) (D : va_G) (cI cZ : ClassId) (sz : Nat) (a : Nat → Nat) (B R E : Nat → Nat → Int32) (td : Int32) (qm qw : Nat) (mm ww : Nat → Int32) (n : Nat) (q : Nat) (hB : B 11 0 = nI n) (hn : n ≤ 40) (hR : R 8 0 = nI q) (hq : q ≤ 30) (I5 : ∀ j, j < q → R 5 j = 0 ∨ R 5 j = 1) (P1 : l_sum (R 1) q = l_sum (R 2) q + l_sum (R 3) q + l_sum (R 4) q + bsm R q) (P2 : ∀ k j, k < n → j < q → ¬ R 6 (40 * j + k) < 0 ∧ (R 6 (40 * j + k) = 0 ∨ (R 0 j = ww k ∧ R 5 j = 0))) (P3 : ∀ k, k < n → l_sum (fun j => R 6 (40 * j + k)) q = B 5 k) (P4 : ∀ k, k < n → ¬ opn B k < 0 ∧ ¬ B 6 k < 0 ∧ ¬ B 8 k < 0 ∧ ¬ B 10 k < 0 ∧ opn B k + B 5 k + B 6 k + B 8 k + B 10 k = mm k ∧ ¬ dueN B k td < 0 ∧ dueN B k td ≤ opn B k ∧ (opn B k = mm k ∨ dueN B k td = opn B k)) (P5 : ∀ j, j < q → ¬ R 3 j < 0 ∧ (R 5 j = 0 ∨ R 3 j = 0)) (P6 : ∀ cc, cc < 2 → oof B (nI cc) n = l_sum (fun k => if ww k = nI cc then opn B k else 0) n) (P7 : l_sum (B 5) n = l_sum (R 2) q) : Met l yL_holds wsL_holds ({ frames := 9, cells := 0, slots := 0, locals := 190 } : Room) (va_Pc [.ref (a 0), .ref (qm), .ref (qw)] (PreX D cI cZ (wCH a cI cZ B R E (td) qm qw mm ww) sz)) (va_Qi (fun (r : Int32) (_ : Unit) => r = 1) (fun (_ : Unit) => PostW D cI cZ (va_A (wCH a cI cZ B R E (td) qm qw mm ww) sz) (wCH a cI cZ B R E (td) qm qw mm ww)) (va_A (wCH a cI cZ B R E (td) qm qw mm ww) sz)) 0 0 (va_A (wCH a cI cZ B R E (td) qm qw mm ww) sz) := by
  refine Met.ofW (cc := cL_holds) (maxL := 10) (ret := (some .boolean)) (by decide) rfl ?_
  intro p e s m args below meth c s₁ BB hml hv
  obtain ⟨rfl, ⟨hsz, hP, hK, hD0⟩, hX, hZ⟩ := hv
  have hx := BB.exec
  have hb := BB.bytes
  have hr := BB.returns
  have hts := atoms_spec (ws := wsL_holds) BB.pre
  have hown : s.vm.findClass RL = some m.cls := findClass_of_methodNamed BB.named
  have hlocks := BB.notSynchronized
  clear BB
  subst hsz
  have hD := hD0.self (sz := s.heap.size)
  clear hD0
  generalize hAe : va_A (wCH a cI cZ B R E (td) qm qw mm ww) s.heap.size = A at hD hZ ⊢
  have hA : ∀ q : Nat, s.heap.size ≤ q → A q := fun q h => by rw [← hAe]; exact Or.inr h
  clear hAe
  have hl := lv_entry ([.ref (a 0), .ref (qm), .ref (qw)]) (n := 10) (Nat.le_of_ble_eq_true rfl)
  rw [lg_entry_eq]
  generalize (lg_sl ([.ref (a 0), .ref (qm), .ref (qw)]) ++ List.replicate (10 - (lg_sl ([.ref (a 0), .ref (qm), .ref (qw)])).length) Slot.unset).toArray = ls at hl ⊢
  have hl : lv_has ls 10 [(0, .ref (a 0)), (1, .ref (qm)), (2, .ref (qw))] := hl
  have F : CallFix p m c cL_holds 10 s ([.ref (a 0), .ref (qm), .ref (qw)] : List Value).toArray wsL_holds RL := ⟨hx, hb, hml, hown, hts⟩
  have hS : va_S A s.heap s.heap [] := va_S.rf
  refine ho_a n q F hK hA hX hZ hfl hB hn hR hq I5 P1 P2 P3 P4 P5 P6 P7 hP hD hS hl (fun H locs ls hP hD hS hl => ?_)
  refine ho_b n q F hK hA hX hZ hfl hB hn hR hq I5 P1 P2 P3 P4 P5 P6 P7 hP hD hS hl (fun H locs ls hP hD hS hl => ?_)
  refine ho_c n q F hK hA hX hZ hfl hB hn hR hq I5 P1 P2 P3 P4 P5 P6 P7 hP hD hS hl (fun H locs ls hP hD hS hl => ?_)
  refine ho_d n q F hK hA hX hZ hfl hB hn hR hq I5 P1 P2 P3 P4 P5 P6 P7 hP hD hS hl (fun H locs ls hP hD hS hl => ?_)
  refine ho_e n q F hK hA hX hZ hfl hB hn hR hq I5 P1 P2 P3 P4 P5 P6 P7 hP hD hS hl (fun H locs ls hP hD hS hl => ?_)
  exact W.zret (ty := .boolean) (v := nI (1)) hx hb hr (by decide) (fun t ht hW => ⟨⟨nI (1), (), rfl, rfl, by rw [ht]; exact hP, va_K.moved hW.alike hK, hD⟩, hS.F ht⟩) hS.2.2 dL_holds_478
