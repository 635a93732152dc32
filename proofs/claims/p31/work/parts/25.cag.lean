theorem dL_comesAndGoes_0 : decode cL_comesAndGoes 0 = .ok (.aload_n 0, 1) := by decide +kernel
theorem dL_comesAndGoes_1 : decode cL_comesAndGoes 1 = .ok (.invokevirtual 86, 3) := by decide +kernel
theorem dL_comesAndGoes_4 : decode cL_comesAndGoes 4 = .ok (.bipush 30, 2) := by decide +kernel
theorem dL_comesAndGoes_6 : decode cL_comesAndGoes 6 = .ok (.if_icmp .ne 5, 3) := by decide +kernel
theorem dL_comesAndGoes_9 : decode cL_comesAndGoes 9 = .ok (.iconst 1, 1) := by decide +kernel
theorem dL_comesAndGoes_10 : decode cL_comesAndGoes 10 = .ok (.ireturn, 1) := by decide +kernel
theorem dL_comesAndGoes_11 : decode cL_comesAndGoes 11 = .ok (.aload_n 0, 1) := by decide +kernel
theorem dL_comesAndGoes_12 : decode cL_comesAndGoes 12 = .ok (.invokevirtual 90, 3) := by decide +kernel
theorem dL_comesAndGoes_15 : decode cL_comesAndGoes 15 = .ok (.istore_n 2, 1) := by decide +kernel
theorem dL_comesAndGoes_16 : decode cL_comesAndGoes 16 = .ok (.bipush 40, 2) := by decide +kernel
theorem dL_comesAndGoes_18 : decode cL_comesAndGoes 18 = .ok (.newarray .int, 2) := by decide +kernel
theorem dL_comesAndGoes_20 : decode cL_comesAndGoes 20 = .ok (.astore_n 3, 1) := by decide +kernel
theorem dL_comesAndGoes_21 : decode cL_comesAndGoes 21 = .ok (.iconst 0, 1) := by decide +kernel
theorem dL_comesAndGoes_22 : decode cL_comesAndGoes 22 = .ok (.istore 4, 2) := by decide +kernel
theorem dL_comesAndGoes_24 : decode cL_comesAndGoes 24 = .ok (.iconst 0, 1) := by decide +kernel
theorem dL_comesAndGoes_25 : decode cL_comesAndGoes 25 = .ok (.istore 5, 2) := by decide +kernel
theorem dL_comesAndGoes_27 : decode cL_comesAndGoes 27 = .ok (.iload 5, 2) := by decide +kernel
theorem dL_comesAndGoes_29 : decode cL_comesAndGoes 29 = .ok (.iload_n 2, 1) := by decide +kernel
theorem dL_comesAndGoes_30 : decode cL_comesAndGoes 30 = .ok (.if_icmp .ge 48, 3) := by decide +kernel
theorem dL_comesAndGoes_33 : decode cL_comesAndGoes 33 = .ok (.aload_n 3, 1) := by decide +kernel
theorem dL_comesAndGoes_34 : decode cL_comesAndGoes 34 = .ok (.iload 5, 2) := by decide +kernel
theorem dL_comesAndGoes_36 : decode cL_comesAndGoes 36 = .ok (.aload_n 0, 1) := by decide +kernel
theorem dL_comesAndGoes_37 : decode cL_comesAndGoes 37 = .ok (.iload 5, 2) := by decide +kernel
theorem dL_comesAndGoes_39 : decode cL_comesAndGoes 39 = .ok (.invokestatic 124, 3) := by decide +kernel
theorem dL_comesAndGoes_42 : decode cL_comesAndGoes 42 = .ok (.iconst 2, 1) := by decide +kernel
theorem dL_comesAndGoes_43 : decode cL_comesAndGoes 43 = .ok (.aload_n 0, 1) := by decide +kernel
theorem dL_comesAndGoes_44 : decode cL_comesAndGoes 44 = .ok (.iload 5, 2) := by decide +kernel
theorem dL_comesAndGoes_46 : decode cL_comesAndGoes 46 = .ok (.invokestatic 128, 3) := by decide +kernel
theorem dL_comesAndGoes_49 : decode cL_comesAndGoes 49 = .ok (.imul, 1) := by decide +kernel
theorem dL_comesAndGoes_50 : decode cL_comesAndGoes 50 = .ok (.iadd, 1) := by decide +kernel
theorem dL_comesAndGoes_51 : decode cL_comesAndGoes 51 = .ok (.iconst 3, 1) := by decide +kernel
theorem dL_comesAndGoes_52 : decode cL_comesAndGoes 52 = .ok (.aload_n 0, 1) := by decide +kernel
theorem dL_comesAndGoes_53 : decode cL_comesAndGoes 53 = .ok (.iload 5, 2) := by decide +kernel
theorem dL_comesAndGoes_55 : decode cL_comesAndGoes 55 = .ok (.invokestatic 130, 3) := by decide +kernel
theorem dL_comesAndGoes_58 : decode cL_comesAndGoes 58 = .ok (.imul, 1) := by decide +kernel
theorem dL_comesAndGoes_59 : decode cL_comesAndGoes 59 = .ok (.iadd, 1) := by decide +kernel
theorem dL_comesAndGoes_60 : decode cL_comesAndGoes 60 = .ok (.iastore, 1) := by decide +kernel
theorem dL_comesAndGoes_61 : decode cL_comesAndGoes 61 = .ok (.iload 4, 2) := by decide +kernel
theorem dL_comesAndGoes_63 : decode cL_comesAndGoes 63 = .ok (.aload_n 0, 1) := by decide +kernel
theorem dL_comesAndGoes_64 : decode cL_comesAndGoes 64 = .ok (.iload 5, 2) := by decide +kernel
theorem dL_comesAndGoes_66 : decode cL_comesAndGoes 66 = .ok (.invokestatic 124, 3) := by decide +kernel
theorem dL_comesAndGoes_69 : decode cL_comesAndGoes 69 = .ok (.iadd, 1) := by decide +kernel
theorem dL_comesAndGoes_70 : decode cL_comesAndGoes 70 = .ok (.istore 4, 2) := by decide +kernel
theorem dL_comesAndGoes_72 : decode cL_comesAndGoes 72 = .ok (.iinc 5 1, 3) := by decide +kernel
theorem dL_comesAndGoes_75 : decode cL_comesAndGoes 75 = .ok (.goto (-48), 3) := by decide +kernel
theorem dL_comesAndGoes_78 : decode cL_comesAndGoes 78 = .ok (.iload_n 1, 1) := by decide +kernel
theorem dL_comesAndGoes_79 : decode cL_comesAndGoes 79 = .ok (.iconst 3, 1) := by decide +kernel
theorem dL_comesAndGoes_80 : decode cL_comesAndGoes 80 = .ok (.irem, 1) := by decide +kernel
theorem dL_comesAndGoes_81 : decode cL_comesAndGoes 81 = .ok (.iconst 1, 1) := by decide +kernel
theorem dL_comesAndGoes_82 : decode cL_comesAndGoes 82 = .ok (.isub, 1) := by decide +kernel
theorem dL_comesAndGoes_83 : decode cL_comesAndGoes 83 = .ok (.istore 5, 2) := by decide +kernel
theorem dL_comesAndGoes_85 : decode cL_comesAndGoes 85 = .ok (.iconst 1, 1) := by decide +kernel
theorem dL_comesAndGoes_86 : decode cL_comesAndGoes 86 = .ok (.iload_n 1, 1) := by decide +kernel
theorem dL_comesAndGoes_87 : decode cL_comesAndGoes 87 = .ok (.iconst 3, 1) := by decide +kernel
theorem dL_comesAndGoes_88 : decode cL_comesAndGoes 88 = .ok (.idiv, 1) := by decide +kernel
theorem dL_comesAndGoes_89 : decode cL_comesAndGoes 89 = .ok (.iload_n 1, 1) := by decide +kernel
theorem dL_comesAndGoes_90 : decode cL_comesAndGoes 90 = .ok (.iconst 2, 1) := by decide +kernel
theorem dL_comesAndGoes_91 : decode cL_comesAndGoes 91 = .ok (.irem, 1) := by decide +kernel
theorem dL_comesAndGoes_92 : decode cL_comesAndGoes 92 = .ok (.ifCond .ne 8, 3) := by decide +kernel
theorem dL_comesAndGoes_95 : decode cL_comesAndGoes 95 = .ok (.bipush 30, 2) := by decide +kernel
theorem dL_comesAndGoes_97 : decode cL_comesAndGoes 97 = .ok (.goto 6, 3) := by decide +kernel
theorem dL_comesAndGoes_100 : decode cL_comesAndGoes 100 = .ok (.sipush 9000, 3) := by decide +kernel
theorem dL_comesAndGoes_103 : decode cL_comesAndGoes 103 = .ok (.irem, 1) := by decide +kernel
theorem dL_comesAndGoes_104 : decode cL_comesAndGoes 104 = .ok (.iadd, 1) := by decide +kernel
theorem dL_comesAndGoes_105 : decode cL_comesAndGoes 105 = .ok (.istore 6, 2) := by decide +kernel
theorem dL_comesAndGoes_107 : decode cL_comesAndGoes 107 = .ok (.aload_n 0, 1) := by decide +kernel
theorem dL_comesAndGoes_108 : decode cL_comesAndGoes 108 = .ok (.iload 5, 2) := by decide +kernel
theorem dL_comesAndGoes_110 : decode cL_comesAndGoes 110 = .ok (.iload 6, 2) := by decide +kernel
theorem dL_comesAndGoes_112 : decode cL_comesAndGoes 112 = .ok (.iload_n 1, 1) := by decide +kernel
theorem dL_comesAndGoes_113 : decode cL_comesAndGoes 113 = .ok (.bipush 7, 2) := by decide +kernel
theorem dL_comesAndGoes_115 : decode cL_comesAndGoes 115 = .ok (.idiv, 1) := by decide +kernel
theorem dL_comesAndGoes_116 : decode cL_comesAndGoes 116 = .ok (.iconst 4, 1) := by decide +kernel
theorem dL_comesAndGoes_117 : decode cL_comesAndGoes 117 = .ok (.irem, 1) := by decide +kernel
theorem dL_comesAndGoes_118 : decode cL_comesAndGoes 118 = .ok (.invokestatic 99, 3) := by decide +kernel
theorem dL_comesAndGoes_121 : decode cL_comesAndGoes 121 = .ok (.istore 7, 2) := by decide +kernel
theorem dL_comesAndGoes_123 : decode cL_comesAndGoes 123 = .ok (.aload_n 0, 1) := by decide +kernel
theorem dL_comesAndGoes_124 : decode cL_comesAndGoes 124 = .ok (.iload 7, 2) := by decide +kernel
theorem dL_comesAndGoes_126 : decode cL_comesAndGoes 126 = .ok (.invokestatic 146, 3) := by decide +kernel
theorem dL_comesAndGoes_129 : decode cL_comesAndGoes 129 = .ok (.istore 8, 2) := by decide +kernel
theorem dL_comesAndGoes_131 : decode cL_comesAndGoes 131 = .ok (.aload_n 0, 1) := by decide +kernel
theorem dL_comesAndGoes_132 : decode cL_comesAndGoes 132 = .ok (.iload 7, 2) := by decide +kernel
theorem dL_comesAndGoes_134 : decode cL_comesAndGoes 134 = .ok (.invokestatic 141, 3) := by decide +kernel
theorem dL_comesAndGoes_137 : decode cL_comesAndGoes 137 = .ok (.istore 9, 2) := by decide +kernel
theorem dL_comesAndGoes_139 : decode cL_comesAndGoes 139 = .ok (.iload 7, 2) := by decide +kernel
theorem dL_comesAndGoes_141 : decode cL_comesAndGoes 141 = .ok (.aload_n 0, 1) := by decide +kernel
theorem dL_comesAndGoes_142 : decode cL_comesAndGoes 142 = .ok (.invokevirtual 86, 3) := by decide +kernel
theorem dL_comesAndGoes_145 : decode cL_comesAndGoes 145 = .ok (.iconst 1, 1) := by decide +kernel
theorem dL_comesAndGoes_146 : decode cL_comesAndGoes 146 = .ok (.isub, 1) := by decide +kernel
theorem dL_comesAndGoes_147 : decode cL_comesAndGoes 147 = .ok (.if_icmp .ne 86, 3) := by decide +kernel
theorem dL_comesAndGoes_150 : decode cL_comesAndGoes 150 = .ok (.iload 8, 2) := by decide +kernel
theorem dL_comesAndGoes_152 : decode cL_comesAndGoes 152 = .ok (.ifCond .lt 81, 3) := by decide +kernel
theorem dL_comesAndGoes_155 : decode cL_comesAndGoes 155 = .ok (.iload 6, 2) := by decide +kernel
theorem dL_comesAndGoes_157 : decode cL_comesAndGoes 157 = .ok (.iload 8, 2) := by decide +kernel
theorem dL_comesAndGoes_159 : decode cL_comesAndGoes 159 = .ok (.isub, 1) := by decide +kernel
theorem dL_comesAndGoes_160 : decode cL_comesAndGoes 160 = .ok (.iload 4, 2) := by decide +kernel
theorem dL_comesAndGoes_162 : decode cL_comesAndGoes 162 = .ok (.if_icmp .gt 71, 3) := by decide +kernel
theorem dL_comesAndGoes_165 : decode cL_comesAndGoes 165 = .ok (.iload 5, 2) := by decide +kernel
theorem dL_comesAndGoes_167 : decode cL_comesAndGoes 167 = .ok (.ifCond .lt 10, 3) := by decide +kernel
theorem dL_comesAndGoes_170 : decode cL_comesAndGoes 170 = .ok (.iload 9, 2) := by decide +kernel
theorem dL_comesAndGoes_172 : decode cL_comesAndGoes 172 = .ok (.iload 5, 2) := by decide +kernel
theorem dL_comesAndGoes_174 : decode cL_comesAndGoes 174 = .ok (.if_icmp .ne 59, 3) := by decide +kernel
theorem dL_comesAndGoes_177 : decode cL_comesAndGoes 177 = .ok (.iload 9, 2) := by decide +kernel
theorem dL_comesAndGoes_179 : decode cL_comesAndGoes 179 = .ok (.ifCond .ge 10, 3) := by decide +kernel
theorem dL_comesAndGoes_182 : decode cL_comesAndGoes 182 = .ok (.iload 8, 2) := by decide +kernel
theorem dL_comesAndGoes_184 : decode cL_comesAndGoes 184 = .ok (.iload 6, 2) := by decide +kernel
theorem dL_comesAndGoes_186 : decode cL_comesAndGoes 186 = .ok (.if_icmp .ne 47, 3) := by decide +kernel
theorem dL_comesAndGoes_189 : decode cL_comesAndGoes 189 = .ok (.iload 9, 2) := by decide +kernel
theorem dL_comesAndGoes_191 : decode cL_comesAndGoes 191 = .ok (.ifCond .lt 17, 3) := by decide +kernel
theorem dL_comesAndGoes_194 : decode cL_comesAndGoes 194 = .ok (.iload 8, 2) := by decide +kernel
theorem dL_comesAndGoes_196 : decode cL_comesAndGoes 196 = .ok (.ifCond .eq 12, 3) := by decide +kernel
theorem dL_comesAndGoes_199 : decode cL_comesAndGoes 199 = .ok (.aload_n 0, 1) := by decide +kernel
theorem dL_comesAndGoes_200 : decode cL_comesAndGoes 200 = .ok (.iload 9, 2) := by decide +kernel
theorem dL_comesAndGoes_202 : decode cL_comesAndGoes 202 = .ok (.invokestatic 137, 3) := by decide +kernel
theorem dL_comesAndGoes_205 : decode cL_comesAndGoes 205 = .ok (.ifCond .ne 28, 3) := by decide +kernel
theorem dL_comesAndGoes_208 : decode cL_comesAndGoes 208 = .ok (.iload 9, 2) := by decide +kernel
theorem dL_comesAndGoes_210 : decode cL_comesAndGoes 210 = .ok (.ifCond .lt 19, 3) := by decide +kernel
theorem dL_comesAndGoes_213 : decode cL_comesAndGoes 213 = .ok (.iload 8, 2) := by decide +kernel
theorem dL_comesAndGoes_215 : decode cL_comesAndGoes 215 = .ok (.ifCond .eq 14, 3) := by decide +kernel
theorem dL_comesAndGoes_218 : decode cL_comesAndGoes 218 = .ok (.aload_n 0, 1) := by decide +kernel
theorem dL_comesAndGoes_219 : decode cL_comesAndGoes 219 = .ok (.iload 7, 2) := by decide +kernel
theorem dL_comesAndGoes_221 : decode cL_comesAndGoes 221 = .ok (.invokestatic 107, 3) := by decide +kernel
theorem dL_comesAndGoes_224 : decode cL_comesAndGoes 224 = .ok (.iload 8, 2) := by decide +kernel
theorem dL_comesAndGoes_226 : decode cL_comesAndGoes 226 = .ok (.if_icmp .ne 7, 3) := by decide +kernel
theorem dL_comesAndGoes_229 : decode cL_comesAndGoes 229 = .ok (.iconst 1, 1) := by decide +kernel
theorem dL_comesAndGoes_230 : decode cL_comesAndGoes 230 = .ok (.goto 4, 3) := by decide +kernel
theorem dL_comesAndGoes_233 : decode cL_comesAndGoes 233 = .ok (.iconst 0, 1) := by decide +kernel
theorem dL_comesAndGoes_234 : decode cL_comesAndGoes 234 = .ok (.istore 10, 2) := by decide +kernel
theorem dL_comesAndGoes_236 : decode cL_comesAndGoes 236 = .ok (.iconst 0, 1) := by decide +kernel
theorem dL_comesAndGoes_237 : decode cL_comesAndGoes 237 = .ok (.istore 11, 2) := by decide +kernel
theorem dL_comesAndGoes_239 : decode cL_comesAndGoes 239 = .ok (.iconst 0, 1) := by decide +kernel
theorem dL_comesAndGoes_240 : decode cL_comesAndGoes 240 = .ok (.istore 12, 2) := by decide +kernel
theorem dL_comesAndGoes_242 : decode cL_comesAndGoes 242 = .ok (.iload 12, 2) := by decide +kernel
theorem dL_comesAndGoes_244 : decode cL_comesAndGoes 244 = .ok (.iload_n 2, 1) := by decide +kernel
theorem dL_comesAndGoes_245 : decode cL_comesAndGoes 245 = .ok (.if_icmp .ge 20, 3) := by decide +kernel
theorem dL_comesAndGoes_248 : decode cL_comesAndGoes 248 = .ok (.iload 11, 2) := by decide +kernel
theorem dL_comesAndGoes_250 : decode cL_comesAndGoes 250 = .ok (.aload_n 0, 1) := by decide +kernel
theorem dL_comesAndGoes_251 : decode cL_comesAndGoes 251 = .ok (.iload 12, 2) := by decide +kernel
theorem dL_comesAndGoes_253 : decode cL_comesAndGoes 253 = .ok (.invokestatic 132, 3) := by decide +kernel
theorem dL_comesAndGoes_256 : decode cL_comesAndGoes 256 = .ok (.iadd, 1) := by decide +kernel
theorem dL_comesAndGoes_257 : decode cL_comesAndGoes 257 = .ok (.istore 11, 2) := by decide +kernel
theorem dL_comesAndGoes_259 : decode cL_comesAndGoes 259 = .ok (.iinc 12 1, 3) := by decide +kernel
theorem dL_comesAndGoes_262 : decode cL_comesAndGoes 262 = .ok (.goto (-20), 3) := by decide +kernel
theorem dL_comesAndGoes_265 : decode cL_comesAndGoes 265 = .ok (.iload 10, 2) := by decide +kernel
theorem dL_comesAndGoes_267 : decode cL_comesAndGoes 267 = .ok (.ifCond .eq 28, 3) := by decide +kernel
theorem dL_comesAndGoes_270 : decode cL_comesAndGoes 270 = .ok (.aload_n 0, 1) := by decide +kernel
theorem dL_comesAndGoes_271 : decode cL_comesAndGoes 271 = .ok (.iload 7, 2) := by decide +kernel
theorem dL_comesAndGoes_273 : decode cL_comesAndGoes 273 = .ok (.invokestatic 114, 3) := by decide +kernel
theorem dL_comesAndGoes_276 : decode cL_comesAndGoes 276 = .ok (.iload 6, 2) := by decide +kernel
theorem dL_comesAndGoes_278 : decode cL_comesAndGoes 278 = .ok (.iload 8, 2) := by decide +kernel
theorem dL_comesAndGoes_280 : decode cL_comesAndGoes 280 = .ok (.if_icmp .le 7, 3) := by decide +kernel
theorem dL_comesAndGoes_283 : decode cL_comesAndGoes 283 = .ok (.iconst 1, 1) := by decide +kernel
theorem dL_comesAndGoes_284 : decode cL_comesAndGoes 284 = .ok (.goto 4, 3) := by decide +kernel
theorem dL_comesAndGoes_287 : decode cL_comesAndGoes 287 = .ok (.iconst 0, 1) := by decide +kernel
theorem dL_comesAndGoes_288 : decode cL_comesAndGoes 288 = .ok (.if_icmp .lt 7, 3) := by decide +kernel
theorem dL_comesAndGoes_291 : decode cL_comesAndGoes 291 = .ok (.iconst 1, 1) := by decide +kernel
theorem dL_comesAndGoes_292 : decode cL_comesAndGoes 292 = .ok (.goto 4, 3) := by decide +kernel
theorem dL_comesAndGoes_295 : decode cL_comesAndGoes 295 = .ok (.iconst 0, 1) := by decide +kernel
theorem dL_comesAndGoes_296 : decode cL_comesAndGoes 296 = .ok (.istore 10, 2) := by decide +kernel
theorem dL_comesAndGoes_298 : decode cL_comesAndGoes 298 = .ok (.iconst 0, 1) := by decide +kernel
theorem dL_comesAndGoes_299 : decode cL_comesAndGoes 299 = .ok (.istore 12, 2) := by decide +kernel
theorem dL_comesAndGoes_301 : decode cL_comesAndGoes 301 = .ok (.iload 12, 2) := by decide +kernel
theorem dL_comesAndGoes_303 : decode cL_comesAndGoes 303 = .ok (.iload_n 2, 1) := by decide +kernel
theorem dL_comesAndGoes_304 : decode cL_comesAndGoes 304 = .ok (.if_icmp .ge 81, 3) := by decide +kernel
theorem dL_comesAndGoes_307 : decode cL_comesAndGoes 307 = .ok (.iload 10, 2) := by decide +kernel
theorem dL_comesAndGoes_309 : decode cL_comesAndGoes 309 = .ok (.ifCond .eq 76, 3) := by decide +kernel
theorem dL_comesAndGoes_312 : decode cL_comesAndGoes 312 = .ok (.aload_n 0, 1) := by decide +kernel
theorem dL_comesAndGoes_313 : decode cL_comesAndGoes 313 = .ok (.iload 12, 2) := by decide +kernel
theorem dL_comesAndGoes_315 : decode cL_comesAndGoes 315 = .ok (.invokestatic 132, 3) := by decide +kernel
theorem dL_comesAndGoes_318 : decode cL_comesAndGoes 318 = .ok (.iload 11, 2) := by decide +kernel
theorem dL_comesAndGoes_320 : decode cL_comesAndGoes 320 = .ok (.if_icmp .gt 56, 3) := by decide +kernel
theorem dL_comesAndGoes_323 : decode cL_comesAndGoes 323 = .ok (.aload_n 3, 1) := by decide +kernel
theorem dL_comesAndGoes_324 : decode cL_comesAndGoes 324 = .ok (.iload 12, 2) := by decide +kernel
theorem dL_comesAndGoes_326 : decode cL_comesAndGoes 326 = .ok (.iaload, 1) := by decide +kernel
theorem dL_comesAndGoes_327 : decode cL_comesAndGoes 327 = .ok (.aload_n 0, 1) := by decide +kernel
theorem dL_comesAndGoes_328 : decode cL_comesAndGoes 328 = .ok (.iload 12, 2) := by decide +kernel
theorem dL_comesAndGoes_330 : decode cL_comesAndGoes 330 = .ok (.invokestatic 124, 3) := by decide +kernel
theorem dL_comesAndGoes_333 : decode cL_comesAndGoes 333 = .ok (.iconst 2, 1) := by decide +kernel
theorem dL_comesAndGoes_334 : decode cL_comesAndGoes 334 = .ok (.aload_n 0, 1) := by decide +kernel
theorem dL_comesAndGoes_335 : decode cL_comesAndGoes 335 = .ok (.iload 12, 2) := by decide +kernel
theorem dL_comesAndGoes_337 : decode cL_comesAndGoes 337 = .ok (.invokestatic 128, 3) := by decide +kernel
theorem dL_comesAndGoes_340 : decode cL_comesAndGoes 340 = .ok (.imul, 1) := by decide +kernel
theorem dL_comesAndGoes_341 : decode cL_comesAndGoes 341 = .ok (.iadd, 1) := by decide +kernel
theorem dL_comesAndGoes_342 : decode cL_comesAndGoes 342 = .ok (.iconst 3, 1) := by decide +kernel
theorem dL_comesAndGoes_343 : decode cL_comesAndGoes 343 = .ok (.aload_n 0, 1) := by decide +kernel
theorem dL_comesAndGoes_344 : decode cL_comesAndGoes 344 = .ok (.iload 12, 2) := by decide +kernel
theorem dL_comesAndGoes_346 : decode cL_comesAndGoes 346 = .ok (.invokestatic 130, 3) := by decide +kernel
theorem dL_comesAndGoes_349 : decode cL_comesAndGoes 349 = .ok (.imul, 1) := by decide +kernel
theorem dL_comesAndGoes_350 : decode cL_comesAndGoes 350 = .ok (.iadd, 1) := by decide +kernel
theorem dL_comesAndGoes_351 : decode cL_comesAndGoes 351 = .ok (.if_icmp .eq 21, 3) := by decide +kernel
theorem dL_comesAndGoes_354 : decode cL_comesAndGoes 354 = .ok (.aload_n 0, 1) := by decide +kernel
theorem dL_comesAndGoes_355 : decode cL_comesAndGoes 355 = .ok (.iload 12, 2) := by decide +kernel
theorem dL_comesAndGoes_357 : decode cL_comesAndGoes 357 = .ok (.invokestatic 132, 3) := by decide +kernel
theorem dL_comesAndGoes_360 : decode cL_comesAndGoes 360 = .ok (.ifCond .ne 16, 3) := by decide +kernel
theorem dL_comesAndGoes_363 : decode cL_comesAndGoes 363 = .ok (.aload_n 0, 1) := by decide +kernel
theorem dL_comesAndGoes_364 : decode cL_comesAndGoes 364 = .ok (.iload 12, 2) := by decide +kernel
theorem dL_comesAndGoes_366 : decode cL_comesAndGoes 366 = .ok (.invokestatic 128, 3) := by decide +kernel
theorem dL_comesAndGoes_369 : decode cL_comesAndGoes 369 = .ok (.ifCond .lt 7, 3) := by decide +kernel
theorem dL_comesAndGoes_372 : decode cL_comesAndGoes 372 = .ok (.iconst 1, 1) := by decide +kernel
theorem dL_comesAndGoes_373 : decode cL_comesAndGoes 373 = .ok (.goto 4, 3) := by decide +kernel
theorem dL_comesAndGoes_376 : decode cL_comesAndGoes 376 = .ok (.iconst 0, 1) := by decide +kernel
theorem dL_comesAndGoes_377 : decode cL_comesAndGoes 377 = .ok (.istore 10, 2) := by decide +kernel
theorem dL_comesAndGoes_379 : decode cL_comesAndGoes 379 = .ok (.iinc 12 1, 3) := by decide +kernel
theorem dL_comesAndGoes_382 : decode cL_comesAndGoes 382 = .ok (.goto (-81), 3) := by decide +kernel
theorem dL_comesAndGoes_385 : decode cL_comesAndGoes 385 = .ok (.iload 10, 2) := by decide +kernel
theorem dL_comesAndGoes_387 : decode cL_comesAndGoes 387 = .ok (.ireturn, 1) := by decide +kernel
set_option maxHeartbeats 8000000 in
set_option maxRecDepth 100000 in
theorem cg_a {p : Program} {l : Launch} {e : Env} {s : State} {m : MethodId} {args : Array Value} {below : List Frame} {meth : Method} {c : Code} {Q : State → Prop} {D : va_G} {A : Nat → Prop} {cI cZ : ClassId} {a : Nat → Nat} {B R E : Nat → Nat → Int32} {td : Int32} {H : Heap} {locs : List Loc} {ls : Array Slot} (n : Nat) (q : Nat) (x : Nat) (F : CallFix p m c cL_comesAndGoes 13 s args wsL_comesAndGoes RL) (hK : va_K D vwCl (tyl cI cZ) s) (hA : ∀ q : Nat, s.heap.size ≤ q → A q) (hX : ExB s) (hZ : ExZ A s s.heap) (hfl : l.stackTraces = false) (hn : n ≤ 40) (hB : B 11 0 = nI n) (hR : R 8 0 = nI q) (hP : va_P D vwCl (wCA a cI cZ B R E (td)) H) (hD : va_D A (wCA a cI cZ B R E (td))) (hS : va_S A s.heap H locs) (hl : lv_has ls 13 [(0, .ref (a 0)), (1, .int (nI (x)))])
    (k78 : ∀ (qk : Nat) (H : Heap) (locs : List Loc) (ls : Array Slot), va_P D vwCl (wCG a cI cZ B R E (td) qk (fil (kpF B) n)) H → va_D A (wCG a cI cZ B R E (td) qk (fil (kpF B) n)) → va_S A s.heap H locs → lv_has ls 13 [(0, .ref (a 0)), (1, .int (nI (x))), (3, .ref (qk)), (2, .int (nI (n))), (4, .int (l_sum (opn B) n))] → W p l e ({ frames := 9, cells := 1, slots := 40, locals := 184 } : Room) s m args below meth c H locs 1 40 Q (F0 m 78 ls [])) :
    W p l e ({ frames := 9, cells := 1, slots := 40, locals := 184 } : Room) s m args below meth c H locs 0 0 Q (F0 m 11 ls []) := by
  obtain ⟨hx, hb, hml, hown, hts⟩ := id F
  have cv_bills : CallW ({ frames := 9, cells := 1, slots := 40, locals := 184 } : Room) s args RL RX3 90 yX3_bills cX3_bills 1 (some .int) wsX3_bills ({ frames := 0, cells := 0, slots := 0, locals := 0 } : Room) 0 0 0 := cwV 0 hts gL_comesAndGoes_X3_bills rfl rfl rfl (by decide +kernel) ⟨Nat.le_of_ble_eq_true rfl, Nat.le_of_ble_eq_true rfl⟩
  have cw_open_0 : vx_CSW ({ frames := 9, cells := 1, slots := 40, locals := 184 } : Room) s args RL 124 yL_open cL_open 3 (some .int) [(0, 5, 6, 13)] wsL_open ({ frames := 2, cells := 0, slots := 0, locals := 42 } : Room) 0 0 2 := vx_cwSW 2 hts gL_comesAndGoes_L_open rfl rfl rfl (by decide +kernel) ⟨Nat.le_of_ble_eq_true rfl, Nat.le_of_ble_eq_true rfl⟩
  have cw_paid_0 : vx_CSW ({ frames := 9, cells := 1, slots := 40, locals := 184 } : Room) s args RL 128 yL_paid cL_paid 3 (some .int) [(0, 5, 6, 13)] wsL_paid ({ frames := 2, cells := 0, slots := 0, locals := 42 } : Room) 0 0 2 := vx_cwSW 2 hts gL_comesAndGoes_L_paid rfl rfl rfl (by decide +kernel) ⟨Nat.le_of_ble_eq_true rfl, Nat.le_of_ble_eq_true rfl⟩
  have cw_taken_0 : vx_CSW ({ frames := 9, cells := 1, slots := 40, locals := 184 } : Room) s args RL 130 yL_taken cL_taken 3 (some .int) [(0, 5, 6, 13)] wsL_taken ({ frames := 2, cells := 0, slots := 0, locals := 42 } : Room) 0 0 2 := vx_cwSW 2 hts gL_comesAndGoes_L_taken rfl rfl rfl (by decide +kernel) ⟨Nat.le_of_ble_eq_true rfl, Nat.le_of_ble_eq_true rfl⟩
  refine lv_aload_n hx hb dL_comesAndGoes_11 rfl (lv_at hl 0 rfl) ?_
  refine zkV (v := B 11 0) kCA (ci := 3) (q0 := 0) F (zwCA hP hD hS hA) hK (c_X3_bills l D cI cZ a H.size (B) (R) (E) (td) ) cv_bills rfl rfl (by decide) rfl rfl hl.1 rfl (Nat.le_of_ble_eq_true rfl) dL_comesAndGoes_12 ⟨Nat.le_of_ble_eq_true rfl, Nat.le_of_ble_eq_true rfl⟩ (fun H locs hP hD hS => ?_)
  rw [hB]
  refine lv_istore_n (lv' := [(2, .int (nI (n))), (0, .ref (a 0)), (1, .int (nI (x)))]) hx hb dL_comesAndGoes_15 rfl hl (by decide) rfl (fun ls hl => ?_)
  refine lv_bipush (v := nI (40)) hx hb dL_comesAndGoes_16 (by decide) ?_
  refine va_newa (atype := .int) (ty := .int) (N' := 40) (a0 := (40, .inl (fun _ => 0))) hx hb (hts (.arrayClass .int) kL_comesAndGoes_arrint) rfl hK hP hD hS hA (fun _ => rfl) (nI_pos (by omega)) (nI_clamp (by omega)) (by decide) (Nat.le_of_ble_eq_true rfl) (Nat.le_of_ble_eq_true rfl) dL_comesAndGoes_18 (fun qk cA H hK2 hP hD hS => ?_)
  obtain rfl : cI = cA := Option.some.inj ((hK.2 0 _ rfl).2.symm.trans (hK2.2 2 _ rfl).2)
  clear hK2
  have hP : va_P D vwCl (wCG a cI cZ B R E (td) qk (fil (kpF B) (0))) H := by rw [← fil_0]; exact hP
  have hD : va_D A (wCG a cI cZ B R E (td) qk (fil (kpF B) (0))) := by rw [← fil_0]; exact hD
  refine W.widen (k := 1) (n := 40) (Nat.le_of_ble_eq_true rfl) (Nat.le_of_ble_eq_true rfl) ?_
  refine lv_astore_n (lv' := [(3, .ref (qk)), (2, .int (nI (n))), (0, .ref (a 0)), (1, .int (nI (x)))]) hx hb dL_comesAndGoes_20 rfl hl (by decide) rfl (fun ls hl => ?_)
  refine lv_iconst (v := nI (0)) hx hb dL_comesAndGoes_21 (by decide) ?_
  refine lv_istore (lv' := [(4, .int (nI (0))), (3, .ref (qk)), (2, .int (nI (n))), (0, .ref (a 0)), (1, .int (nI (x)))]) hx hb dL_comesAndGoes_22 hl (by decide) rfl (fun ls hl => ?_)
  refine lv_iconst (v := nI (0)) hx hb dL_comesAndGoes_24 (by decide) ?_
  refine lv_istore (lv' := [(5, .int (nI (0))), (4, .int (nI (0))), (3, .ref (qk)), (2, .int (nI (n))), (0, .ref (a 0)), (1, .int (nI (x)))]) hx hb dL_comesAndGoes_25 hl (by decide) rfl (fun ls hl => ?_)
  have loop27 : ∀ (fu : Nat) (k : Nat) (hk : k ≤ n) (hfu : n - k < fu) (H : Heap) (locs : List Loc) (hP : va_P D vwCl (wCG a cI cZ B R E (td) qk (fil (kpF B) (k))) H) (hD : va_D A (wCG a cI cZ B R E (td) qk (fil (kpF B) (k)))) (hS : va_S A s.heap H locs) (ls : Array Slot) (hl : lv_has ls 13 [(0, .ref (a 0)), (1, .int (nI (x))), (2, .int (nI (n))), (3, .ref (qk)), (4, .int (l_sum (opn B) (k))), (5, .int (nI (k)))]), W p l e ({ frames := 9, cells := 1, slots := 40, locals := 184 } : Room) s m args below meth c H locs 1 40 Q (F0 m 27 ls []) := by
    clear hP hD hS hl
    intro fu27
    induction fu27 with
    | zero => intro k hk hfu; exact absurd hfu (Nat.not_lt_zero _)
    | succ fu27 ih27 =>
      intro k hk hfu H locs hP hD hS ls hl
      refine lv_iload hx hb dL_comesAndGoes_27 (lv_at hl 5 rfl) ?_
      refine lv_iload_n hx hb dL_comesAndGoes_29 rfl (lv_at hl 2 rfl) ?_
      refine lv_icmp_ge (tgt := 78) hx hb dL_comesAndGoes_30 (by decide) (fun c30 => ?_) (fun c30 => ?_)
      · -- 30 taken
        rw [nI_leI (by omega) (by omega)] at c30
        have hkn : n = k := by omega
        have hP : va_P D vwCl (wCG a cI cZ B R E (td) qk (fil (kpF B) n)) H := by rw [hkn]; exact hP
        have hD : va_D A (wCG a cI cZ B R E (td) qk (fil (kpF B) n)) := by rw [hkn]; exact hD
        have hl : lv_has ls 13 [(0, .ref (a 0)), (1, .int (nI (x))), (2, .int (nI (n))), (3, .ref (qk)), (4, .int (l_sum (opn B) n)), (5, .int (nI (k)))] := by rw [show l_sum (opn B) n = l_sum (opn B) k from congrArg _ hkn]; exact hl
        exact k78 qk _ _ _ hP hD hS (lv_sub hl [0, 1, 3, 2, 4] rfl)
      · -- 30 on
        rw [nI_leI (by omega) (by omega)] at c30
        refine lv_aload_n hx hb dL_comesAndGoes_33 rfl (lv_at hl 3 rfl) ?_
        refine lv_iload hx hb dL_comesAndGoes_34 (lv_at hl 5 rfl) ?_
        refine lv_aload_n hx hb dL_comesAndGoes_36 rfl (lv_at hl 0 rfl) ?_
        refine lv_iload hx hb dL_comesAndGoes_37 (lv_at hl 5 rfl) ?_
        refine zkW (v := opn B (k)) kCG F (zwCG hP hD hS hA) hK hX hZ (c_L_open_0 l D cI cZ a H.size (B) (R) (E) (td) (n) (k) (by first | assumption | omega) (by first | assumption | omega) (by first | assumption | omega)) cw_open_0 (by decide) rfl rfl hl.1 rfl (Nat.le_of_ble_eq_true rfl) dL_comesAndGoes_39 ⟨Nat.le_of_ble_eq_true rfl, Nat.le_of_ble_eq_true rfl⟩ (fun H locs hP hD hS => ?_)
        refine lv_iconst (v := nI (2)) hx hb dL_comesAndGoes_42 (by decide) ?_
        refine lv_aload_n hx hb dL_comesAndGoes_43 rfl (lv_at hl 0 rfl) ?_
        refine lv_iload hx hb dL_comesAndGoes_44 (lv_at hl 5 rfl) ?_
        refine zkW (v := B 5 (k)) kCG F (zwCG hP hD hS hA) hK hX hZ (c_L_paid_0 l D cI cZ a H.size (B) (R) (E) (td) (n) (k) (by first | assumption | omega) (by first | assumption | omega) (by first | assumption | omega)) cw_paid_0 (by decide) rfl rfl hl.1 rfl (Nat.le_of_ble_eq_true rfl) dL_comesAndGoes_46 ⟨Nat.le_of_ble_eq_true rfl, Nat.le_of_ble_eq_true rfl⟩ (fun H locs hP hD hS => ?_)
        refine lv_imul hx hb dL_comesAndGoes_49 ?_
        refine lv_iadd hx hb dL_comesAndGoes_50 ?_
        refine lv_iconst (v := nI (3)) hx hb dL_comesAndGoes_51 (by decide) ?_
        refine lv_aload_n hx hb dL_comesAndGoes_52 rfl (lv_at hl 0 rfl) ?_
        refine lv_iload hx hb dL_comesAndGoes_53 (lv_at hl 5 rfl) ?_
        refine zkW (v := B 6 (k)) kCG F (zwCG hP hD hS hA) hK hX hZ (c_L_taken_0 l D cI cZ a H.size (B) (R) (E) (td) (n) (k) (by first | assumption | omega) (by first | assumption | omega) (by first | assumption | omega)) cw_taken_0 (by decide) rfl rfl hl.1 rfl (Nat.le_of_ble_eq_true rfl) dL_comesAndGoes_55 ⟨Nat.le_of_ble_eq_true rfl, Nat.le_of_ble_eq_true rfl⟩ (fun H locs hP hD hS => ?_)
        refine lv_imul hx hb dL_comesAndGoes_58 ?_
        refine lv_iadd hx hb dL_comesAndGoes_59 ?_
        refine zast hx hb hK hP hD hS 26 (n := 40) (f := (fil (kpF B) (k))) rfl (k) rfl (by omega) (by decide) (wCG a cI cZ B R E (td) qk (upd (fil (kpF B) (k)) (k) (((opn B (k)) + ((nI (2)) * (B 5 (k)))) + ((nI (3)) * (B 6 (k)))))) rfl dL_comesAndGoes_60 (fun H locs hP hD hS => ?_)
        refine lv_iload hx hb dL_comesAndGoes_61 (lv_at hl 4 rfl) ?_
        refine lv_aload_n hx hb dL_comesAndGoes_63 rfl (lv_at hl 0 rfl) ?_
        refine lv_iload hx hb dL_comesAndGoes_64 (lv_at hl 5 rfl) ?_
        refine zkW (v := opn B (k)) kCG F (zwCG hP hD hS hA) hK hX hZ (c_L_open_0 l D cI cZ a H.size (B) (R) (E) (td) (n) (k) (by first | assumption | omega) (by first | assumption | omega) (by first | assumption | omega)) cw_open_0 (by decide) rfl rfl hl.1 rfl (Nat.le_of_ble_eq_true rfl) dL_comesAndGoes_66 ⟨Nat.le_of_ble_eq_true rfl, Nat.le_of_ble_eq_true rfl⟩ (fun H locs hP hD hS => ?_)
        refine lv_iadd hx hb dL_comesAndGoes_69 ?_
        refine lv_istore (lv' := [(4, .int ((l_sum (opn B) (k)) + (opn B (k)))), (0, .ref (a 0)), (1, .int (nI (x))), (2, .int (nI (n))), (3, .ref (qk)), (5, .int (nI (k)))]) hx hb dL_comesAndGoes_70 hl (by decide) rfl (fun ls hl => ?_)
        refine lv_iinc (v := nI (k + 1)) (lv' := [(5, .int (nI (k + 1))), (4, .int ((l_sum (opn B) (k)) + (opn B (k)))), (0, .ref (a 0)), (1, .int (nI (x))), (2, .int (nI (n))), (3, .ref (qk))]) hx hb dL_comesAndGoes_72 hl (k := 5) rfl (nI_1 _) (by decide) rfl (fun ls hl => ?_)
        refine lv_goto (tgt := 27) hx hb dL_comesAndGoes_75 (by decide) ?_
        have hup : (upd (fil (kpF B) (k)) (k) (((opn B (k)) + ((nI (2)) * (B 5 (k)))) + ((nI (3)) * (B 6 (k))))) = fil (kpF B) (k + 1) := fil_up
        have hP : va_P D vwCl (wCG a cI cZ B R E (td) qk (fil (kpF B) (k + 1))) H := by rw [← hup]; exact hP
        have hD : va_D A (wCG a cI cZ B R E (td) qk (fil (kpF B) (k + 1))) := by rw [← hup]; exact hD
        have hl : lv_has ls 13 [(5, .int (nI (k + 1))), (4, .int (l_sum (opn B) (k + 1))), (0, .ref (a 0)), (1, .int (nI (x))), (2, .int (nI (n))), (3, .ref (qk))] := by show lv_has ls 13 _; exact hl
        exact ih27 (k + 1) (by omega) (by omega) _ _ hP hD hS _ (lv_sub hl [2, 3, 4, 5, 1, 0] rfl)
  exact loop27 _ (0) (Nat.zero_le _) (Nat.lt_succ_self _) _ _ hP hD hS _ (lv_sub hl [4, 5, 3, 2, 1, 0] rfl)
set_option maxHeartbeats 8000000 in
set_option maxRecDepth 100000 in
theorem cg_b {p : Program} {l : Launch} {e : Env} {s : State} {m : MethodId} {args : Array Value} {below : List Frame} {meth : Method} {c : Code} {Q : State → Prop} {D : va_G} {A : Nat → Prop} {cI cZ : ClassId} {a : Nat → Nat} {B R E : Nat → Nat → Int32} {td : Int32} {H : Heap} {locs : List Loc} {ls : Array Slot} (n : Nat) (q : Nat) (x : Nat) (qk : Nat) (F : CallFix p m c cL_comesAndGoes 13 s args wsL_comesAndGoes RL) (hK : va_K D vwCl (tyl cI cZ) s) (hA : ∀ q : Nat, s.heap.size ≤ q → A q) (hX : ExB s) (hZ : ExZ A s s.heap) (hfl : l.stackTraces = false) (hn : n ≤ 40) (hx9 : x < 2147483648) (hP : va_P D vwCl (wCG a cI cZ B R E (td) qk (fil (kpF B) n)) H) (hD : va_D A (wCG a cI cZ B R E (td) qk (fil (kpF B) n))) (hS : va_S A s.heap H locs) (hl : lv_has ls 13 [(0, .ref (a 0)), (1, .int (nI (x))), (3, .ref (qk)), (2, .int (nI (n))), (4, .int (l_sum (opn B) n))])
    (k107 : ∀ (H : Heap) (locs : List Loc) (ls : Array Slot), va_P D vwCl (wCG a cI cZ B R E (td) qk (fil (kpF B) n)) H → va_D A (wCG a cI cZ B R E (td) qk (fil (kpF B) n)) → va_S A s.heap H locs → lv_has ls 13 [(0, .ref (a 0)), (1, .int (nI (x))), (3, .ref (qk)), (2, .int (nI (n))), (4, .int (l_sum (opn B) n)), (5, .int ((nI (x % 3)) - (nI (1)))), (6, .int (nI (cgAm x)))] → W p l e ({ frames := 9, cells := 1, slots := 40, locals := 184 } : Room) s m args below meth c H locs 1 40 Q (F0 m 107 ls [])) :
    W p l e ({ frames := 9, cells := 1, slots := 40, locals := 184 } : Room) s m args below meth c H locs 1 40 Q (F0 m 78 ls []) := by
  obtain ⟨hx, hb, hml, hown, hts⟩ := id F
  refine lv_iload_n hx hb dL_comesAndGoes_78 rfl (lv_at hl 1 rfl) ?_
  refine lv_iconst (v := nI (3)) hx hb dL_comesAndGoes_79 (by decide) ?_
  refine lv_rem (x := x) (d := 3) hx hb rfl rfl dL_comesAndGoes_80 (by omega) (by omega) (by omega) ?_
  refine lv_iconst (v := nI (1)) hx hb dL_comesAndGoes_81 (by decide) ?_
  refine lv_isub hx hb dL_comesAndGoes_82 ?_
  refine lv_istore (lv' := [(5, .int ((nI (x % 3)) - (nI (1)))), (0, .ref (a 0)), (1, .int (nI (x))), (3, .ref (qk)), (2, .int (nI (n))), (4, .int (l_sum (opn B) n))]) hx hb dL_comesAndGoes_83 hl (by decide) rfl (fun ls hl => ?_)
  refine lv_iconst (v := nI (1)) hx hb dL_comesAndGoes_85 (by decide) ?_
  refine lv_iload_n hx hb dL_comesAndGoes_86 rfl (lv_at hl 2 rfl) ?_
  refine lv_iconst (v := nI (3)) hx hb dL_comesAndGoes_87 (by decide) ?_
  refine lv_quo (x := x) (d := 3) hx hb rfl rfl dL_comesAndGoes_88 (by omega) (by omega) (by omega) ?_
  refine lv_iload_n hx hb dL_comesAndGoes_89 rfl (lv_at hl 2 rfl) ?_
  refine lv_iconst (v := nI (2)) hx hb dL_comesAndGoes_90 (by decide) ?_
  refine lv_rem (x := x) (d := 2) hx hb rfl rfl dL_comesAndGoes_91 (by omega) (by omega) (by omega) ?_
  refine lv_if_ne (tgt := 100) hx hb dL_comesAndGoes_92 (by decide) (fun c92 => ?_) (fun c92 => ?_)
  · -- 92 taken
    rw [show (0 : Int32) = nI 0 from rfl] at c92
    rw [nI_eq (by omega) (by omega)] at c92
    refine lv_sipush (v := nI (9000)) hx hb dL_comesAndGoes_100 (by decide) ?_
    refine lv_rem (x := x / 3) (d := 9000) hx hb rfl rfl dL_comesAndGoes_103 (by omega) (by omega) (by omega) ?_
    refine lv_sum (x := 1) (d := (x / 3) % (9000)) hx hb rfl rfl dL_comesAndGoes_104 ?_
    refine lv_istore (lv' := [(6, .int (nI ((1) + ((x / 3) % (9000))))), (5, .int ((nI (x % 3)) - (nI (1)))), (0, .ref (a 0)), (1, .int (nI (x))), (3, .ref (qk)), (2, .int (nI (n))), (4, .int (l_sum (opn B) n))]) hx hb dL_comesAndGoes_105 hl (by decide) rfl (fun ls hl => ?_)
    have hl : lv_has ls 13 [(6, .int (nI (cgAm x))), (5, .int ((nI (x % 3)) - (nI (1)))), (0, .ref (a 0)), (1, .int (nI (x))), (3, .ref (qk)), (2, .int (nI (n))), (4, .int (l_sum (opn B) n))] := by unfold cgAm; rw [if_neg c92]; exact hl
    exact k107  _ _ _ hP hD hS (lv_sub hl [2, 3, 4, 5, 6, 1, 0] rfl)
  · -- 92 on
    rw [show (0 : Int32) = nI 0 from rfl] at c92
    rw [nI_eq (by omega) (by omega)] at c92
    refine lv_bipush (v := nI (30)) hx hb dL_comesAndGoes_95 (by decide) ?_
    refine lv_goto (tgt := 103) hx hb dL_comesAndGoes_97 (by decide) ?_
    refine lv_rem (x := x / 3) (d := 30) hx hb rfl rfl dL_comesAndGoes_103 (by omega) (by omega) (by omega) ?_
    refine lv_sum (x := 1) (d := (x / 3) % (30)) hx hb rfl rfl dL_comesAndGoes_104 ?_
    refine lv_istore (lv' := [(6, .int (nI ((1) + ((x / 3) % (30))))), (5, .int ((nI (x % 3)) - (nI (1)))), (0, .ref (a 0)), (1, .int (nI (x))), (3, .ref (qk)), (2, .int (nI (n))), (4, .int (l_sum (opn B) n))]) hx hb dL_comesAndGoes_105 hl (by decide) rfl (fun ls hl => ?_)
    have hl : lv_has ls 13 [(6, .int (nI (cgAm x))), (5, .int ((nI (x % 3)) - (nI (1)))), (0, .ref (a 0)), (1, .int (nI (x))), (3, .ref (qk)), (2, .int (nI (n))), (4, .int (l_sum (opn B) n))] := by unfold cgAm; rw [if_pos c92]; exact hl
    exact k107  _ _ _ hP hD hS (lv_sub hl [2, 3, 4, 5, 6, 1, 0] rfl)
set_option maxHeartbeats 8000000 in
set_option maxRecDepth 100000 in
theorem cg_c {p : Program} {l : Launch} {e : Env} {s : State} {m : MethodId} {args : Array Value} {below : List Frame} {meth : Method} {c : Code} {Q : State → Prop} {D : va_G} {A : Nat → Prop} {cI cZ : ClassId} {a : Nat → Nat} {B R E : Nat → Nat → Int32} {td : Int32} {H : Heap} {locs : List Loc} {ls : Array Slot} (n : Nat) (q : Nat) (x : Nat) (qk : Nat) (F : CallFix p m c cL_comesAndGoes 13 s args wsL_comesAndGoes RL) (hK : va_K D vwCl (tyl cI cZ) s) (hA : ∀ q : Nat, s.heap.size ≤ q → A q) (hX : ExB s) (hZ : ExZ A s s.heap) (hfl : l.stackTraces = false) (hn : n ≤ 40) (hB : B 11 0 = nI n) (hR : R 8 0 = nI q) (hq : q < 30) (hx9 : x < 2147483648) (hP : va_P D vwCl (wCG a cI cZ B R E (td) qk (fil (kpF B) n)) H) (hD : va_D A (wCG a cI cZ B R E (td) qk (fil (kpF B) n))) (hS : va_S A s.heap H locs) (hl : lv_has ls 13 [(0, .ref (a 0)), (1, .int (nI (x))), (3, .ref (qk)), (2, .int (nI (n))), (4, .int (l_sum (opn B) n)), (5, .int ((nI (x % 3)) - (nI (1)))), (6, .int (nI (cgAm x)))])
    (k121 : ∀ (B1 : Nat → Nat → Int32) (R1 : Nat → Nat → Int32) (E1 : Nat → Nat → Int32) (h1 : cgS B R E td n q x = (B1, R1, E1)) (H : Heap) (locs : List Loc) (ls : Array Slot), va_P D vwCl (wCG a cI cZ B1 R1 E1 (td) qk (fil (kpF B) n)) H → va_D A (wCG a cI cZ B1 R1 E1 (td) qk (fil (kpF B) n)) → va_S A s.heap H locs → lv_has ls 13 [(0, .ref (a 0)), (1, .int (nI (x))), (3, .ref (qk)), (2, .int (nI (n))), (4, .int (l_sum (opn B) n)), (5, .int ((nI (x % 3)) - (nI (1)))), (6, .int (nI (cgAm x)))] → W p l e ({ frames := 9, cells := 1, slots := 40, locals := 184 } : Room) s m args below meth c H locs 1 40 Q (F0 m 121 ls [.int (nI (q))])) :
    W p l e ({ frames := 9, cells := 1, slots := 40, locals := 184 } : Room) s m args below meth c H locs 1 40 Q (F0 m 107 ls []) := by
  obtain ⟨hx, hb, hml, hown, hts⟩ := id F
  have cw_receives_0 : vx_CSW ({ frames := 9, cells := 1, slots := 40, locals := 184 } : Room) s args RL 99 yL_receives cL_receives 5 (some .int) [(0, 7, 8, 13), (0, 7, 13, 16), (0, 7, 18, 19)] wsL_receives ({ frames := 7, cells := 0, slots := 0, locals := 160 } : Room) 0 0 4 := vx_cwSW 4 hts gL_comesAndGoes_L_receives rfl rfl rfl (by decide +kernel) ⟨Nat.le_of_ble_eq_true rfl, Nat.le_of_ble_eq_true rfl⟩
  refine lv_aload_n hx hb dL_comesAndGoes_107 rfl (lv_at hl 0 rfl) ?_
  refine lv_iload hx hb dL_comesAndGoes_108 (lv_at hl 5 rfl) ?_
  refine lv_iload hx hb dL_comesAndGoes_110 (lv_at hl 6 rfl) ?_
  refine lv_iload_n hx hb dL_comesAndGoes_112 rfl (lv_at hl 1 rfl) ?_
  refine lv_bipush (v := nI (7)) hx hb dL_comesAndGoes_113 (by decide) ?_
  refine lv_quo (x := x) (d := 7) hx hb rfl rfl dL_comesAndGoes_115 (by omega) (by omega) (by omega) ?_
  refine lv_iconst (v := nI (4)) hx hb dL_comesAndGoes_116 (by decide) ?_
  refine lv_rem (x := x / 7) (d := 4) hx hb rfl rfl dL_comesAndGoes_117 (by omega) (by omega) (by omega) ?_
  refine zcW (wf := fun (_ : Unit) => (wCG a cI cZ ((rcvS B R E q ((nI (x % 3)) - (nI (1))) (nI (cgAm x)) (nI ((x / 7) % (4))) n td).1) ((rcvS B R E q ((nI (x % 3)) - (nI (1))) (nI (cgAm x)) (nI ((x / 7) % (4))) n td).2.1) ((rcvS B R E q ((nI (x % 3)) - (nI (1))) (nI (cgAm x)) (nI ((x / 7) % (4))) n td).2.2) (td) qk (fil (kpF B) n))) kCG F (zwCG hP hD hS hA) hK hX hZ (c_L_receives_0 l D cI cZ a H.size (B) (R) (E) (td) (n) (q) ((nI (x % 3)) - (nI (1))) (nI (cgAm x)) (nI ((x / 7) % (4))) (by first | assumption | omega) (by first | assumption | omega) (by first | assumption | omega) (by first | assumption | omega) (cgCu _ (by omega)) (by show ¬ nI _ < 1; exact nI_nlt (b := 1) (cgAm_r x).1 (by have := (cgAm_r x).2; omega)) (nI_le (b := 1000000) (by have := (cgAm_r x).2; omega) (by decide)) (nI_pos (by omega)) (nI_le (b := 9999) (by omega) (by decide))) cw_receives_0 (by decide) (fun _ => rfl) rfl hl.1 rfl (Nat.le_of_ble_eq_true rfl) dL_comesAndGoes_118 ⟨Nat.le_of_ble_eq_true rfl, Nat.le_of_ble_eq_true rfl⟩ (fun r118 u H locs hw hP hD hS => ?_)
  have hw : r118 = nI q := hw
  subst hw
  have hP : va_P D vwCl (wCG a cI cZ ((rcvS B R E q ((nI (x % 3)) - (nI (1))) (nI (cgAm x)) (nI ((x / 7) % (4))) n td).1) ((rcvS B R E q ((nI (x % 3)) - (nI (1))) (nI (cgAm x)) (nI ((x / 7) % (4))) n td).2.1) ((rcvS B R E q ((nI (x % 3)) - (nI (1))) (nI (cgAm x)) (nI ((x / 7) % (4))) n td).2.2) (td) qk (fil (kpF B) n)) H := hP
  have hD : va_D A (wCG a cI cZ ((rcvS B R E q ((nI (x % 3)) - (nI (1))) (nI (cgAm x)) (nI ((x / 7) % (4))) n td).1) ((rcvS B R E q ((nI (x % 3)) - (nI (1))) (nI (cgAm x)) (nI ((x / 7) % (4))) n td).2.1) ((rcvS B R E q ((nI (x % 3)) - (nI (1))) (nI (cgAm x)) (nI ((x / 7) % (4))) n td).2.2) (td) qk (fil (kpF B) n)) := hD
  exact k121 _ _ _ rfl _ _ _ hP hD hS (lv_sub hl [0, 1, 2, 3, 4, 5, 6] rfl)
set_option maxHeartbeats 8000000 in
set_option maxRecDepth 100000 in
theorem cg_d {p : Program} {l : Launch} {e : Env} {s : State} {m : MethodId} {args : Array Value} {below : List Frame} {meth : Method} {c : Code} {Q : State → Prop} {D : va_G} {A : Nat → Prop} {cI cZ : ClassId} {a : Nat → Nat} {B R E : Nat → Nat → Int32} {td : Int32} {H : Heap} {locs : List Loc} {ls : Array Slot} (n : Nat) (q : Nat) (x : Nat) (qk : Nat) (B1 : Nat → Nat → Int32) (R1 : Nat → Nat → Int32) (E1 : Nat → Nat → Int32) (F : CallFix p m c cL_comesAndGoes 13 s args wsL_comesAndGoes RL) (hK : va_K D vwCl (tyl cI cZ) s) (hA : ∀ q : Nat, s.heap.size ≤ q → A q) (hX : ExB s) (hZ : ExZ A s s.heap) (hfl : l.stackTraces = false) (hn : n ≤ 40) (hq : q < 30) (hB : B1 11 0 = nI n) (hR : R1 8 0 = nI (q + 1)) (f5 : ¬ R1 3 q < 0) (f6 : nI (cgAm x) - R1 3 q ≤ l_sum (opn B) n) (f8 : nI (x % 3) - nI 1 < 0 ∨ R1 0 q = nI (x % 3) - nI 1) (hP : va_P D vwCl (wCG a cI cZ B1 R1 E1 (td) qk (fil (kpF B) n)) H) (hD : va_D A (wCG a cI cZ B1 R1 E1 (td) qk (fil (kpF B) n))) (hS : va_S A s.heap H locs) (hl : lv_has ls 13 [(0, .ref (a 0)), (1, .int (nI (x))), (3, .ref (qk)), (2, .int (nI (n))), (4, .int (l_sum (opn B) n)), (5, .int ((nI (x % 3)) - (nI (1)))), (6, .int (nI (cgAm x)))])
    (k177 : ∀ (H : Heap) (locs : List Loc) (ls : Array Slot), va_P D vwCl (wCG a cI cZ B1 R1 E1 (td) qk (fil (kpF B) n)) H → va_D A (wCG a cI cZ B1 R1 E1 (td) qk (fil (kpF B) n)) → va_S A s.heap H locs → lv_has ls 13 [(0, .ref (a 0)), (1, .int (nI (x))), (3, .ref (qk)), (2, .int (nI (n))), (6, .int (nI (cgAm x))), (7, .int (nI (q))), (8, .int (R1 3 (q))), (9, .int (R1 0 (q)))] → W p l e ({ frames := 9, cells := 1, slots := 40, locals := 184 } : Room) s m args below meth c H locs 1 40 Q (F0 m 177 ls [])) :
    W p l e ({ frames := 9, cells := 1, slots := 40, locals := 184 } : Room) s m args below meth c H locs 1 40 Q (F0 m 121 ls [.int (nI (q))]) := by
  obtain ⟨hx, hb, hml, hown, hts⟩ := id F
  have cw_unapplied_0 : vx_CSW ({ frames := 9, cells := 1, slots := 40, locals := 184 } : Room) s args RL 146 yL_unapplied cL_unapplied 3 (some .int) [(0, 5, 6, 13)] wsL_unapplied ({ frames := 2, cells := 0, slots := 0, locals := 42 } : Room) 0 0 2 := vx_cwSW 2 hts gL_comesAndGoes_L_unapplied rfl rfl rfl (by decide +kernel) ⟨Nat.le_of_ble_eq_true rfl, Nat.le_of_ble_eq_true rfl⟩
  have cw_customer_0 : vx_CSW ({ frames := 9, cells := 1, slots := 40, locals := 184 } : Room) s args RL 141 yL_customer cL_customer 3 (some .int) [(0, 5, 6, 13)] wsL_customer ({ frames := 2, cells := 0, slots := 0, locals := 42 } : Room) 0 0 2 := vx_cwSW 2 hts gL_comesAndGoes_L_customer rfl rfl rfl (by decide +kernel) ⟨Nat.le_of_ble_eq_true rfl, Nat.le_of_ble_eq_true rfl⟩
  have cv_receipts : CallW ({ frames := 9, cells := 1, slots := 40, locals := 184 } : Room) s args RL RX3 86 yX3_receipts cX3_receipts 1 (some .int) wsX3_receipts ({ frames := 0, cells := 0, slots := 0, locals := 0 } : Room) 0 0 0 := cwV 0 hts gL_comesAndGoes_X3_receipts rfl rfl rfl (by decide +kernel) ⟨Nat.le_of_ble_eq_true rfl, Nat.le_of_ble_eq_true rfl⟩
  refine lv_istore (lv' := [(7, .int (nI (q))), (0, .ref (a 0)), (1, .int (nI (x))), (3, .ref (qk)), (2, .int (nI (n))), (4, .int (l_sum (opn B) n)), (5, .int ((nI (x % 3)) - (nI (1)))), (6, .int (nI (cgAm x)))]) hx hb dL_comesAndGoes_121 hl (by decide) rfl (fun ls hl => ?_)
  refine lv_aload_n hx hb dL_comesAndGoes_123 rfl (lv_at hl 1 rfl) ?_
  refine lv_iload hx hb dL_comesAndGoes_124 (lv_at hl 0 rfl) ?_
  refine zkW (v := (R1) 3 (q)) kCG F (zwCG hP hD hS hA) hK hX hZ (c_L_unapplied_0 l D cI cZ a H.size (B1) (R1) (E1) (td) (q + 1) (q) (by first | assumption | omega) (by omega) (by omega)) cw_unapplied_0 (by decide) rfl rfl hl.1 rfl (Nat.le_of_ble_eq_true rfl) dL_comesAndGoes_126 ⟨Nat.le_of_ble_eq_true rfl, Nat.le_of_ble_eq_true rfl⟩ (fun H locs hP hD hS => ?_)
  refine lv_istore (lv' := [(8, .int ((R1) 3 (q))), (7, .int (nI (q))), (0, .ref (a 0)), (1, .int (nI (x))), (3, .ref (qk)), (2, .int (nI (n))), (4, .int (l_sum (opn B) n)), (5, .int ((nI (x % 3)) - (nI (1)))), (6, .int (nI (cgAm x)))]) hx hb dL_comesAndGoes_129 hl (by decide) rfl (fun ls hl => ?_)
  refine lv_aload_n hx hb dL_comesAndGoes_131 rfl (lv_at hl 2 rfl) ?_
  refine lv_iload hx hb dL_comesAndGoes_132 (lv_at hl 1 rfl) ?_
  refine zkW (v := (R1) 0 (q)) kCG F (zwCG hP hD hS hA) hK hX hZ (c_L_customer_0 l D cI cZ a H.size (B1) (R1) (E1) (td) (q + 1) (q) (by first | assumption | omega) (by omega) (by omega)) cw_customer_0 (by decide) rfl rfl hl.1 rfl (Nat.le_of_ble_eq_true rfl) dL_comesAndGoes_134 ⟨Nat.le_of_ble_eq_true rfl, Nat.le_of_ble_eq_true rfl⟩ (fun H locs hP hD hS => ?_)
  refine lv_istore (lv' := [(9, .int ((R1) 0 (q))), (8, .int ((R1) 3 (q))), (7, .int (nI (q))), (0, .ref (a 0)), (1, .int (nI (x))), (3, .ref (qk)), (2, .int (nI (n))), (4, .int (l_sum (opn B) n)), (5, .int ((nI (x % 3)) - (nI (1)))), (6, .int (nI (cgAm x)))]) hx hb dL_comesAndGoes_137 hl (by decide) rfl (fun ls hl => ?_)
  refine lv_iload hx hb dL_comesAndGoes_139 (lv_at hl 2 rfl) ?_
  refine lv_aload_n hx hb dL_comesAndGoes_141 rfl (lv_at hl 3 rfl) ?_
  refine zkV (v := (R1) 8 0) kCG (ci := 3) (q0 := 0) F (zwCG hP hD hS hA) hK (c_X3_receipts l D cI cZ a H.size (B1) (R1) (E1) (td) ) cv_receipts rfl rfl (by decide) rfl rfl hl.1 rfl (Nat.le_of_ble_eq_true rfl) dL_comesAndGoes_142 ⟨Nat.le_of_ble_eq_true rfl, Nat.le_of_ble_eq_true rfl⟩ (fun H locs hP hD hS => ?_)
  rw [hR]
  refine lv_iconst (v := nI (1)) hx hb dL_comesAndGoes_145 (by decide) ?_
  refine lv_isub hx hb dL_comesAndGoes_146 ?_
  refine lv_icmp_ne (tgt := 233) hx hb dL_comesAndGoes_147 (by decide) (fun c147 => ?_) (fun c147 => ?_)
  · -- 147 taken
    exact absurd (pk_sub (a := q + 1) (b := 1) (by omega)).symm c147
  · -- 147 on
    refine lv_iload hx hb dL_comesAndGoes_150 (lv_at hl 1 rfl) ?_
    refine lv_if_lt (tgt := 233) hx hb dL_comesAndGoes_152 (by decide) (fun c152 => ?_) (fun c152 => ?_)
    · -- 152 taken
      exact absurd c152 f5
    · -- 152 on
      refine lv_iload hx hb dL_comesAndGoes_155 (lv_at hl 9 rfl) ?_
      refine lv_iload hx hb dL_comesAndGoes_157 (lv_at hl 1 rfl) ?_
      refine lv_isub hx hb dL_comesAndGoes_159 ?_
      refine lv_iload hx hb dL_comesAndGoes_160 (lv_at hl 7 rfl) ?_
      refine lv_icmp_gt (tgt := 233) hx hb dL_comesAndGoes_162 (by decide) (fun c162 => ?_) (fun c162 => ?_)
      · -- 162 taken
        exact absurd c162 (Int32.not_lt.mpr f6)
      · -- 162 on
        refine lv_iload hx hb dL_comesAndGoes_165 (lv_at hl 8 rfl) ?_
        refine lv_if_lt (tgt := 177) hx hb dL_comesAndGoes_167 (by decide) (fun c167 => ?_) (fun c167 => ?_)
        · -- 167 taken
          exact k177  _ _ _ hP hD hS (lv_sub hl [3, 4, 5, 6, 9, 2, 1, 0] rfl)
        · -- 167 on
          refine lv_iload hx hb dL_comesAndGoes_170 (lv_at hl 0 rfl) ?_
          refine lv_iload hx hb dL_comesAndGoes_172 (lv_at hl 8 rfl) ?_
          refine lv_icmp_ne (tgt := 233) hx hb dL_comesAndGoes_174 (by decide) (fun c174 => ?_) (fun c174 => ?_)
          · -- 174 taken
            exact absurd (f8.resolve_left c167) c174
          · -- 174 on
            exact k177  _ _ _ hP hD hS (lv_sub hl [3, 4, 5, 6, 9, 2, 1, 0] rfl)
set_option maxHeartbeats 8000000 in
set_option maxRecDepth 100000 in
theorem cg_e {p : Program} {l : Launch} {e : Env} {s : State} {m : MethodId} {args : Array Value} {below : List Frame} {meth : Method} {c : Code} {Q : State → Prop} {D : va_G} {A : Nat → Prop} {cI cZ : ClassId} {a : Nat → Nat} {B R E : Nat → Nat → Int32} {td : Int32} {H : Heap} {locs : List Loc} {ls : Array Slot} (n : Nat) (q : Nat) (x : Nat) (qk : Nat) (B1 : Nat → Nat → Int32) (R1 : Nat → Nat → Int32) (E1 : Nat → Nat → Int32) (F : CallFix p m c cL_comesAndGoes 13 s args wsL_comesAndGoes RL) (hK : va_K D vwCl (tyl cI cZ) s) (hA : ∀ q : Nat, s.heap.size ≤ q → A q) (hX : ExB s) (hZ : ExZ A s s.heap) (hfl : l.stackTraces = false) (hn : n ≤ 40) (f9 : ¬ R1 0 q < 0 ∨ R1 3 q = nI (cgAm x)) (hP : va_P D vwCl (wCG a cI cZ B1 R1 E1 (td) qk (fil (kpF B) n)) H) (hD : va_D A (wCG a cI cZ B1 R1 E1 (td) qk (fil (kpF B) n))) (hS : va_S A s.heap H locs) (hl : lv_has ls 13 [(0, .ref (a 0)), (1, .int (nI (x))), (3, .ref (qk)), (2, .int (nI (n))), (6, .int (nI (cgAm x))), (7, .int (nI (q))), (8, .int (R1 3 (q))), (9, .int (R1 0 (q)))])
    (k189 : ∀ (H : Heap) (locs : List Loc) (ls : Array Slot), va_P D vwCl (wCG a cI cZ B1 R1 E1 (td) qk (fil (kpF B) n)) H → va_D A (wCG a cI cZ B1 R1 E1 (td) qk (fil (kpF B) n)) → va_S A s.heap H locs → lv_has ls 13 [(0, .ref (a 0)), (1, .int (nI (x))), (3, .ref (qk)), (2, .int (nI (n))), (6, .int (nI (cgAm x))), (7, .int (nI (q))), (8, .int (R1 3 (q))), (9, .int (R1 0 (q)))] → W p l e ({ frames := 9, cells := 1, slots := 40, locals := 184 } : Room) s m args below meth c H locs 1 40 Q (F0 m 189 ls [])) :
    W p l e ({ frames := 9, cells := 1, slots := 40, locals := 184 } : Room) s m args below meth c H locs 1 40 Q (F0 m 177 ls []) := by
  obtain ⟨hx, hb, hml, hown, hts⟩ := id F
  refine lv_iload hx hb dL_comesAndGoes_177 (lv_at hl 7 rfl) ?_
  refine lv_if_ge (tgt := 189) hx hb dL_comesAndGoes_179 (by decide) (fun c179 => ?_) (fun c179 => ?_)
  · -- 179 taken
    exact k189  _ _ _ hP hD hS (lv_sub hl [0, 1, 2, 3, 4, 5, 6, 7] rfl)
  · -- 179 on
    refine lv_iload hx hb dL_comesAndGoes_182 (lv_at hl 6 rfl) ?_
    refine lv_iload hx hb dL_comesAndGoes_184 (lv_at hl 4 rfl) ?_
    refine lv_icmp_ne (tgt := 233) hx hb dL_comesAndGoes_186 (by decide) (fun c186 => ?_) (fun c186 => ?_)
    · -- 186 taken
      exact absurd (f9.resolve_left (fun z => z (lt_of_nge32 c179))) c186
    · -- 186 on
      exact k189  _ _ _ hP hD hS (lv_sub hl [0, 1, 2, 3, 4, 5, 6, 7] rfl)
set_option maxHeartbeats 8000000 in
set_option maxRecDepth 100000 in
theorem cg_f {p : Program} {l : Launch} {e : Env} {s : State} {m : MethodId} {args : Array Value} {below : List Frame} {meth : Method} {c : Code} {Q : State → Prop} {D : va_G} {A : Nat → Prop} {cI cZ : ClassId} {a : Nat → Nat} {B R E : Nat → Nat → Int32} {td : Int32} {H : Heap} {locs : List Loc} {ls : Array Slot} (n : Nat) (q : Nat) (x : Nat) (qk : Nat) (B1 : Nat → Nat → Int32) (R1 : Nat → Nat → Int32) (E1 : Nat → Nat → Int32) (F : CallFix p m c cL_comesAndGoes 13 s args wsL_comesAndGoes RL) (hK : va_K D vwCl (tyl cI cZ) s) (hA : ∀ q : Nat, s.heap.size ≤ q → A q) (hX : ExB s) (hZ : ExZ A s s.heap) (hfl : l.stackTraces = false) (hn : n ≤ 40) (hq : q < 30) (hB : B1 11 0 = nI n) (hR : R1 8 0 = nI (q + 1)) (fa : R1 0 q = -1 ∨ (¬ R1 0 q < 0 ∧ R1 0 q < 8)) (fb : ¬ R1 0 q < 0 → ¬ R1 3 q = 0 → oof B1 (R1 0 q) n = 0 ∧ (othS B1 R1 E1 q n td).1 = B1 ∧ (othS B1 R1 E1 q n td).2.1 = R1) (hP : va_P D vwCl (wCG a cI cZ B1 R1 E1 (td) qk (fil (kpF B) n)) H) (hD : va_D A (wCG a cI cZ B1 R1 E1 (td) qk (fil (kpF B) n))) (hS : va_S A s.heap H locs) (hl : lv_has ls 13 [(0, .ref (a 0)), (1, .int (nI (x))), (3, .ref (qk)), (2, .int (nI (n))), (6, .int (nI (cgAm x))), (7, .int (nI (q))), (8, .int (R1 3 (q))), (9, .int (R1 0 (q)))])
    (k208 : ∀ (H : Heap) (locs : List Loc) (ls : Array Slot), va_P D vwCl (wCG a cI cZ B1 R1 E1 (td) qk (fil (kpF B) n)) H → va_D A (wCG a cI cZ B1 R1 E1 (td) qk (fil (kpF B) n)) → va_S A s.heap H locs → lv_has ls 13 [(0, .ref (a 0)), (1, .int (nI (x))), (3, .ref (qk)), (2, .int (nI (n))), (6, .int (nI (cgAm x))), (7, .int (nI (q))), (8, .int (R1 3 (q))), (9, .int (R1 0 (q)))] → W p l e ({ frames := 9, cells := 1, slots := 40, locals := 184 } : Room) s m args below meth c H locs 1 40 Q (F0 m 208 ls [])) :
    W p l e ({ frames := 9, cells := 1, slots := 40, locals := 184 } : Room) s m args below meth c H locs 1 40 Q (F0 m 189 ls []) := by
  obtain ⟨hx, hb, hml, hown, hts⟩ := id F
  have cw_openOf_0 : vx_CSW ({ frames := 9, cells := 1, slots := 40, locals := 184 } : Room) s args RL 137 yL_openOf cL_openOf 3 (some .int) [(0, 5, 6, 13)] wsL_openOf ({ frames := 2, cells := 0, slots := 0, locals := 44 } : Room) 0 0 2 := vx_cwSW 2 hts gL_comesAndGoes_L_openOf rfl rfl rfl (by decide +kernel) ⟨Nat.le_of_ble_eq_true rfl, Nat.le_of_ble_eq_true rfl⟩
  refine lv_iload hx hb dL_comesAndGoes_189 (lv_at hl 7 rfl) ?_
  refine lv_if_lt (tgt := 208) hx hb dL_comesAndGoes_191 (by decide) (fun c191 => ?_) (fun c191 => ?_)
  · -- 191 taken
    exact k208  _ _ _ hP hD hS (lv_sub hl [0, 1, 2, 3, 4, 5, 6, 7] rfl)
  · -- 191 on
    refine lv_iload hx hb dL_comesAndGoes_194 (lv_at hl 6 rfl) ?_
    refine lv_if_eq (tgt := 208) hx hb dL_comesAndGoes_196 (by decide) (fun c196 => ?_) (fun c196 => ?_)
    · -- 196 taken
      exact k208  _ _ _ hP hD hS (lv_sub hl [0, 1, 2, 3, 4, 5, 6, 7] rfl)
    · -- 196 on
      refine lv_aload_n hx hb dL_comesAndGoes_199 rfl (lv_at hl 0 rfl) ?_
      refine lv_iload hx hb dL_comesAndGoes_200 (lv_at hl 7 rfl) ?_
      refine zkW (v := oof (B1) (R1 0 (q)) n) kCG F (zwCG hP hD hS hA) hK hX hZ (c_L_openOf_0 l D cI cZ a H.size (B1) (R1) (E1) (td) (n) (R1 0 (q)) (by first | assumption | omega) (by first | assumption | omega) c191 (fa.resolve_left (fun z => c191 (by rw [z]; decide))).2) cw_openOf_0 (by decide) rfl rfl hl.1 rfl (Nat.le_of_ble_eq_true rfl) dL_comesAndGoes_202 ⟨Nat.le_of_ble_eq_true rfl, Nat.le_of_ble_eq_true rfl⟩ (fun H locs hP hD hS => ?_)
      refine lv_if_ne (tgt := 233) hx hb dL_comesAndGoes_205 (by decide) (fun c205 => ?_) (fun c205 => ?_)
      · -- 205 taken
        exact absurd (fb c191 c196).1 c205
      · -- 205 on
        exact k208  _ _ _ hP hD hS (lv_sub hl [0, 1, 2, 3, 4, 5, 6, 7] rfl)
set_option maxHeartbeats 8000000 in
set_option maxRecDepth 100000 in
theorem cg_g {p : Program} {l : Launch} {e : Env} {s : State} {m : MethodId} {args : Array Value} {below : List Frame} {meth : Method} {c : Code} {Q : State → Prop} {D : va_G} {A : Nat → Prop} {cI cZ : ClassId} {a : Nat → Nat} {B R E : Nat → Nat → Int32} {td : Int32} {H : Heap} {locs : List Loc} {ls : Array Slot} (n : Nat) (q : Nat) (x : Nat) (qk : Nat) (B1 : Nat → Nat → Int32) (R1 : Nat → Nat → Int32) (E1 : Nat → Nat → Int32) (F : CallFix p m c cL_comesAndGoes 13 s args wsL_comesAndGoes RL) (hK : va_K D vwCl (tyl cI cZ) s) (hA : ∀ q : Nat, s.heap.size ≤ q → A q) (hX : ExB s) (hZ : ExZ A s s.heap) (hfl : l.stackTraces = false) (hn : n ≤ 40) (hq : q < 30) (hB : B1 11 0 = nI n) (hR : R1 8 0 = nI (q + 1)) (fa : R1 0 q = -1 ∨ (¬ R1 0 q < 0 ∧ R1 0 q < 8)) (fb : ¬ R1 0 q < 0 → ¬ R1 3 q = 0 → oof B1 (R1 0 q) n = 0 ∧ (othS B1 R1 E1 q n td).1 = B1 ∧ (othS B1 R1 E1 q n td).2.1 = R1) (f3 : R1 5 q = 0) (hP : va_P D vwCl (wCG a cI cZ B1 R1 E1 (td) qk (fil (kpF B) n)) H) (hD : va_D A (wCG a cI cZ B1 R1 E1 (td) qk (fil (kpF B) n))) (hS : va_S A s.heap H locs) (hl : lv_has ls 13 [(0, .ref (a 0)), (1, .int (nI (x))), (3, .ref (qk)), (2, .int (nI (n))), (6, .int (nI (cgAm x))), (7, .int (nI (q))), (8, .int (R1 3 (q))), (9, .int (R1 0 (q)))])
    (k229 : ∀ (E2 : Nat → Nat → Int32) (H : Heap) (locs : List Loc) (ls : Array Slot), va_P D vwCl (wCG a cI cZ B1 R1 E2 (td) qk (fil (kpF B) n)) H → va_D A (wCG a cI cZ B1 R1 E2 (td) qk (fil (kpF B) n)) → va_S A s.heap H locs → lv_has ls 13 [(0, .ref (a 0)), (1, .int (nI (x))), (3, .ref (qk)), (2, .int (nI (n))), (6, .int (nI (cgAm x))), (7, .int (nI (q))), (8, .int (R1 3 (q))), (9, .int (R1 0 (q)))] → W p l e ({ frames := 9, cells := 1, slots := 40, locals := 184 } : Room) s m args below meth c H locs 1 40 Q (F0 m 229 ls [])) :
    W p l e ({ frames := 9, cells := 1, slots := 40, locals := 184 } : Room) s m args below meth c H locs 1 40 Q (F0 m 208 ls []) := by
  obtain ⟨hx, hb, hml, hown, hts⟩ := id F
  have cw_applies_0 : vx_CSW ({ frames := 9, cells := 1, slots := 40, locals := 184 } : Room) s args RL 107 yL_applies cL_applies 3 (some .int) [(0, 5, 6, 13), (0, 5, 10, 19)] wsL_applies ({ frames := 7, cells := 0, slots := 0, locals := 157 } : Room) 0 0 2 := vx_cwSW 2 hts gL_comesAndGoes_L_applies rfl rfl rfl (by decide +kernel) ⟨Nat.le_of_ble_eq_true rfl, Nat.le_of_ble_eq_true rfl⟩
  refine lv_iload hx hb dL_comesAndGoes_208 (lv_at hl 7 rfl) ?_
  refine lv_if_lt (tgt := 229) hx hb dL_comesAndGoes_210 (by decide) (fun c210 => ?_) (fun c210 => ?_)
  · -- 210 taken
    exact k229 _ _ _ _ hP hD hS (lv_sub hl [0, 1, 2, 3, 4, 5, 6, 7] rfl)
  · -- 210 on
    refine lv_iload hx hb dL_comesAndGoes_213 (lv_at hl 6 rfl) ?_
    refine lv_if_eq (tgt := 229) hx hb dL_comesAndGoes_215 (by decide) (fun c215 => ?_) (fun c215 => ?_)
    · -- 215 taken
      exact k229 _ _ _ _ hP hD hS (lv_sub hl [0, 1, 2, 3, 4, 5, 6, 7] rfl)
    · -- 215 on
      refine lv_aload_n hx hb dL_comesAndGoes_218 rfl (lv_at hl 0 rfl) ?_
      refine lv_iload hx hb dL_comesAndGoes_219 (lv_at hl 5 rfl) ?_
      refine zcW (wf := fun (_ : Unit) => (wCG a cI cZ ((othS (B1) (R1) (E1) (q) n td).1) ((othS (B1) (R1) (E1) (q) n td).2.1) ((othS (B1) (R1) (E1) (q) n td).2.2) (td) qk (fil (kpF B) n))) kCG F (zwCG hP hD hS hA) hK hX hZ (c_L_applies_0 l D cI cZ a H.size (B1) (R1) (E1) (td) (n) (q + 1) (q) (by first | assumption | omega) (by first | assumption | omega) (by first | assumption | omega) (by omega) (by omega) f3 (fun z => c210 (by rw [z]; decide))) cw_applies_0 (by decide) (fun _ => rfl) rfl hl.1 rfl (Nat.le_of_ble_eq_true rfl) dL_comesAndGoes_221 ⟨Nat.le_of_ble_eq_true rfl, Nat.le_of_ble_eq_true rfl⟩ (fun r221 u H locs hw hP hD hS => ?_)
      have hw : r221 = (othS (B1) (R1) (E1) (q) n td).2.1 3 (q) := hw
      subst hw
      have hP : va_P D vwCl (wCG a cI cZ ((othS (B1) (R1) (E1) (q) n td).1) ((othS (B1) (R1) (E1) (q) n td).2.1) ((othS (B1) (R1) (E1) (q) n td).2.2) (td) qk (fil (kpF B) n)) H := hP
      have hD : va_D A (wCG a cI cZ ((othS (B1) (R1) (E1) (q) n td).1) ((othS (B1) (R1) (E1) (q) n td).2.1) ((othS (B1) (R1) (E1) (q) n td).2.2) (td) qk (fil (kpF B) n)) := hD
      rw [(fb c210 c215).2.1, (fb c210 c215).2.2] at hP hD
      rw [(fb c210 c215).2.2]
      refine lv_iload hx hb dL_comesAndGoes_224 (lv_at hl 6 rfl) ?_
      refine lv_icmp_ne (tgt := 233) hx hb dL_comesAndGoes_226 (by decide) (fun c226 => ?_) (fun c226 => ?_)
      · -- 226 taken
        exact absurd rfl c226
      · -- 226 on
        exact k229 _ _ _ _ hP hD hS (lv_sub hl [0, 1, 2, 3, 4, 5, 6, 7] rfl)
set_option maxHeartbeats 8000000 in
set_option maxRecDepth 100000 in
theorem cg_h {p : Program} {l : Launch} {e : Env} {s : State} {m : MethodId} {args : Array Value} {below : List Frame} {meth : Method} {c : Code} {Q : State → Prop} {D : va_G} {A : Nat → Prop} {cI cZ : ClassId} {a : Nat → Nat} {B R E : Nat → Nat → Int32} {td : Int32} {H : Heap} {locs : List Loc} {ls : Array Slot} (n : Nat) (q : Nat) (x : Nat) (qk : Nat) (B1 : Nat → Nat → Int32) (R1 : Nat → Nat → Int32) (E2 : Nat → Nat → Int32) (F : CallFix p m c cL_comesAndGoes 13 s args wsL_comesAndGoes RL) (hK : va_K D vwCl (tyl cI cZ) s) (hA : ∀ q : Nat, s.heap.size ≤ q → A q) (hX : ExB s) (hZ : ExZ A s s.heap) (hfl : l.stackTraces = false) (hn : n ≤ 40) (hB : B1 11 0 = nI n) (hP : va_P D vwCl (wCG a cI cZ B1 R1 E2 (td) qk (fil (kpF B) n)) H) (hD : va_D A (wCG a cI cZ B1 R1 E2 (td) qk (fil (kpF B) n))) (hS : va_S A s.heap H locs) (hl : lv_has ls 13 [(0, .ref (a 0)), (1, .int (nI (x))), (3, .ref (qk)), (2, .int (nI (n))), (6, .int (nI (cgAm x))), (7, .int (nI (q))), (8, .int (R1 3 (q))), (9, .int (R1 0 (q)))])
    (k265 : ∀ (H : Heap) (locs : List Loc) (ls : Array Slot), va_P D vwCl (wCG a cI cZ B1 R1 E2 (td) qk (fil (kpF B) n)) H → va_D A (wCG a cI cZ B1 R1 E2 (td) qk (fil (kpF B) n)) → va_S A s.heap H locs → lv_has ls 13 [(0, .ref (a 0)), (1, .int (nI (x))), (3, .ref (qk)), (2, .int (nI (n))), (6, .int (nI (cgAm x))), (7, .int (nI (q))), (8, .int (R1 3 (q))), (9, .int (R1 0 (q))), (10, .int (nI (1))), (11, .int (l_sum (B1 8) n))] → W p l e ({ frames := 9, cells := 1, slots := 40, locals := 184 } : Room) s m args below meth c H locs 1 40 Q (F0 m 265 ls [])) :
    W p l e ({ frames := 9, cells := 1, slots := 40, locals := 184 } : Room) s m args below meth c H locs 1 40 Q (F0 m 229 ls []) := by
  obtain ⟨hx, hb, hml, hown, hts⟩ := id F
  have cw_disputed_0 : vx_CSW ({ frames := 9, cells := 1, slots := 40, locals := 184 } : Room) s args RL 132 yL_disputed cL_disputed 3 (some .int) [(0, 5, 6, 13)] wsL_disputed ({ frames := 2, cells := 0, slots := 0, locals := 42 } : Room) 0 0 2 := vx_cwSW 2 hts gL_comesAndGoes_L_disputed rfl rfl rfl (by decide +kernel) ⟨Nat.le_of_ble_eq_true rfl, Nat.le_of_ble_eq_true rfl⟩
  refine lv_iconst (v := nI (1)) hx hb dL_comesAndGoes_229 (by decide) ?_
  refine lv_goto (tgt := 234) hx hb dL_comesAndGoes_230 (by decide) ?_
  refine lv_istore (lv' := [(10, .int (nI (1))), (0, .ref (a 0)), (1, .int (nI (x))), (3, .ref (qk)), (2, .int (nI (n))), (6, .int (nI (cgAm x))), (7, .int (nI (q))), (8, .int (R1 3 (q))), (9, .int (R1 0 (q)))]) hx hb dL_comesAndGoes_234 hl (by decide) rfl (fun ls hl => ?_)
  refine lv_iconst (v := nI (0)) hx hb dL_comesAndGoes_236 (by decide) ?_
  refine lv_istore (lv' := [(11, .int (nI (0))), (10, .int (nI (1))), (0, .ref (a 0)), (1, .int (nI (x))), (3, .ref (qk)), (2, .int (nI (n))), (6, .int (nI (cgAm x))), (7, .int (nI (q))), (8, .int (R1 3 (q))), (9, .int (R1 0 (q)))]) hx hb dL_comesAndGoes_237 hl (by decide) rfl (fun ls hl => ?_)
  refine lv_iconst (v := nI (0)) hx hb dL_comesAndGoes_239 (by decide) ?_
  refine lv_istore (lv' := [(12, .int (nI (0))), (11, .int (nI (0))), (10, .int (nI (1))), (0, .ref (a 0)), (1, .int (nI (x))), (3, .ref (qk)), (2, .int (nI (n))), (6, .int (nI (cgAm x))), (7, .int (nI (q))), (8, .int (R1 3 (q))), (9, .int (R1 0 (q)))]) hx hb dL_comesAndGoes_240 hl (by decide) rfl (fun ls hl => ?_)
  have loop242 : ∀ (fu : Nat) (k : Nat) (hk : k ≤ n) (hfu : n - k < fu) (H : Heap) (locs : List Loc) (hP : va_P D vwCl (wCG a cI cZ B1 R1 E2 (td) qk (fil (kpF B) n)) H) (hD : va_D A (wCG a cI cZ B1 R1 E2 (td) qk (fil (kpF B) n))) (hS : va_S A s.heap H locs) (ls : Array Slot) (hl : lv_has ls 13 [(0, .ref (a 0)), (1, .int (nI (x))), (2, .int (nI (n))), (3, .ref (qk)), (6, .int (nI (cgAm x))), (7, .int (nI (q))), (8, .int (R1 3 (q))), (9, .int (R1 0 (q))), (10, .int (nI (1))), (11, .int (l_sum (B1 8) (k))), (12, .int (nI (k)))]), W p l e ({ frames := 9, cells := 1, slots := 40, locals := 184 } : Room) s m args below meth c H locs 1 40 Q (F0 m 242 ls []) := by
    clear hP hD hS hl
    intro fu242
    induction fu242 with
    | zero => intro k hk hfu; exact absurd hfu (Nat.not_lt_zero _)
    | succ fu242 ih242 =>
      intro k hk hfu H locs hP hD hS ls hl
      refine lv_iload hx hb dL_comesAndGoes_242 (lv_at hl 10 rfl) ?_
      refine lv_iload_n hx hb dL_comesAndGoes_244 rfl (lv_at hl 2 rfl) ?_
      refine lv_icmp_ge (tgt := 265) hx hb dL_comesAndGoes_245 (by decide) (fun c245 => ?_) (fun c245 => ?_)
      · -- 245 taken
        rw [nI_leI (by omega) (by omega)] at c245
        have hl : lv_has ls 13 [(0, .ref (a 0)), (1, .int (nI (x))), (2, .int (nI (n))), (3, .ref (qk)), (6, .int (nI (cgAm x))), (7, .int (nI (q))), (8, .int (R1 3 (q))), (9, .int (R1 0 (q))), (10, .int (nI (1))), (11, .int (l_sum (B1 8) n)), (12, .int (nI (k)))] := by rw [show l_sum (B1 8) n = l_sum (B1 8) k from congrArg _ (by omega)]; exact hl
        exact k265  _ _ _ hP hD hS (lv_sub hl [0, 1, 3, 2, 4, 5, 6, 7, 8, 9] rfl)
      · -- 245 on
        rw [nI_leI (by omega) (by omega)] at c245
        refine lv_iload hx hb dL_comesAndGoes_248 (lv_at hl 9 rfl) ?_
        refine lv_aload_n hx hb dL_comesAndGoes_250 rfl (lv_at hl 0 rfl) ?_
        refine lv_iload hx hb dL_comesAndGoes_251 (lv_at hl 10 rfl) ?_
        refine zkW (v := (B1) 8 (k)) kCG F (zwCG hP hD hS hA) hK hX hZ (c_L_disputed_0 l D cI cZ a H.size (B1) (R1) (E2) (td) (n) (k) (by first | assumption | omega) (by first | assumption | omega) (by first | assumption | omega)) cw_disputed_0 (by decide) rfl rfl hl.1 rfl (Nat.le_of_ble_eq_true rfl) dL_comesAndGoes_253 ⟨Nat.le_of_ble_eq_true rfl, Nat.le_of_ble_eq_true rfl⟩ (fun H locs hP hD hS => ?_)
        refine lv_iadd hx hb dL_comesAndGoes_256 ?_
        refine lv_istore (lv' := [(11, .int ((l_sum (B1 8) (k)) + ((B1) 8 (k)))), (0, .ref (a 0)), (1, .int (nI (x))), (2, .int (nI (n))), (3, .ref (qk)), (6, .int (nI (cgAm x))), (7, .int (nI (q))), (8, .int (R1 3 (q))), (9, .int (R1 0 (q))), (10, .int (nI (1))), (12, .int (nI (k)))]) hx hb dL_comesAndGoes_257 hl (by decide) rfl (fun ls hl => ?_)
        refine lv_iinc (v := nI (k + 1)) (lv' := [(12, .int (nI (k + 1))), (11, .int ((l_sum (B1 8) (k)) + ((B1) 8 (k)))), (0, .ref (a 0)), (1, .int (nI (x))), (2, .int (nI (n))), (3, .ref (qk)), (6, .int (nI (cgAm x))), (7, .int (nI (q))), (8, .int (R1 3 (q))), (9, .int (R1 0 (q))), (10, .int (nI (1)))]) hx hb dL_comesAndGoes_259 hl (k := 10) rfl (nI_1 _) (by decide) rfl (fun ls hl => ?_)
        refine lv_goto (tgt := 242) hx hb dL_comesAndGoes_262 (by decide) ?_
        have hl : lv_has ls 13 [(12, .int (nI (k + 1))), (11, .int (l_sum (B1 8) (k + 1))), (0, .ref (a 0)), (1, .int (nI (x))), (2, .int (nI (n))), (3, .ref (qk)), (6, .int (nI (cgAm x))), (7, .int (nI (q))), (8, .int (R1 3 (q))), (9, .int (R1 0 (q))), (10, .int (nI (1)))] := by show lv_has ls 13 _; exact hl
        exact ih242 (k + 1) (by omega) (by omega) _ _ hP hD hS _ (lv_sub hl [2, 3, 4, 5, 6, 7, 8, 9, 10, 1, 0] rfl)
  exact loop242 _ (0) (Nat.zero_le _) (Nat.lt_succ_self _) _ _ hP hD hS _ (lv_sub hl [3, 4, 6, 5, 7, 8, 9, 10, 2, 1, 0] rfl)
set_option maxHeartbeats 8000000 in
set_option maxRecDepth 100000 in
theorem cg_i {p : Program} {l : Launch} {e : Env} {s : State} {m : MethodId} {args : Array Value} {below : List Frame} {meth : Method} {c : Code} {Q : State → Prop} {D : va_G} {A : Nat → Prop} {cI cZ : ClassId} {a : Nat → Nat} {B R E : Nat → Nat → Int32} {td : Int32} {H : Heap} {locs : List Loc} {ls : Array Slot} (n : Nat) (q : Nat) (x : Nat) (qk : Nat) (B1 : Nat → Nat → Int32) (R1 : Nat → Nat → Int32) (E2 : Nat → Nat → Int32) (F : CallFix p m c cL_comesAndGoes 13 s args wsL_comesAndGoes RL) (hK : va_K D vwCl (tyl cI cZ) s) (hA : ∀ q : Nat, s.heap.size ≤ q → A q) (hX : ExB s) (hZ : ExZ A s s.heap) (hfl : l.stackTraces = false) (hn : n ≤ 40) (hq : q < 30) (hB : B1 11 0 = nI n) (hR : R1 8 0 = nI (q + 1)) (f3 : R1 5 q = 0) (f4 : R1 4 q ≤ 0) (f7 : ∀ j, R1 7 j = 0 ∨ R1 7 j = 1) (fc : R1 3 q < nI (cgAm x) → ¬ nI (bncL q n 0 0 B1 R1).1 < nI 1) (fd : ¬ nI (bncL q n 0 0 B1 R1).1 < nI 0) (hP : va_P D vwCl (wCG a cI cZ B1 R1 E2 (td) qk (fil (kpF B) n)) H) (hD : va_D A (wCG a cI cZ B1 R1 E2 (td) qk (fil (kpF B) n))) (hS : va_S A s.heap H locs) (hl : lv_has ls 13 [(0, .ref (a 0)), (1, .int (nI (x))), (3, .ref (qk)), (2, .int (nI (n))), (6, .int (nI (cgAm x))), (7, .int (nI (q))), (8, .int (R1 3 (q))), (9, .int (R1 0 (q))), (10, .int (nI (1))), (11, .int (l_sum (B1 8) n))])
    (k298 : ∀ (B3 : Nat → Nat → Int32) (R3 : Nat → Nat → Int32) (h3 : B3 = (bncL q n 0 0 B1 R1).2.1) (h4 : R3 = mkB (bncL q n 0 0 B1 R1).2.2 q) (H : Heap) (locs : List Loc) (ls : Array Slot), va_P D vwCl (wCG a cI cZ B3 R3 E2 (td) qk (fil (kpF B) n)) H → va_D A (wCG a cI cZ B3 R3 E2 (td) qk (fil (kpF B) n)) → va_S A s.heap H locs → lv_has ls 13 [(0, .ref (a 0)), (1, .int (nI (x))), (3, .ref (qk)), (2, .int (nI (n))), (10, .int (nI (1))), (11, .int (l_sum (B1 8) n))] → W p l e ({ frames := 9, cells := 1, slots := 40, locals := 184 } : Room) s m args below meth c H locs 1 40 Q (F0 m 298 ls [])) :
    W p l e ({ frames := 9, cells := 1, slots := 40, locals := 184 } : Room) s m args below meth c H locs 1 40 Q (F0 m 265 ls []) := by
  obtain ⟨hx, hb, hml, hown, hts⟩ := id F
  have cw_bounces_0 : vx_CSW ({ frames := 9, cells := 1, slots := 40, locals := 184 } : Room) s args RL 114 yL_bounces cL_bounces 3 (some .int) [(0, 5, 6, 13), (0, 5, 10, 19)] wsL_bounces ({ frames := 3, cells := 0, slots := 0, locals := 69 } : Room) 0 0 2 := vx_cwSW 2 hts gL_comesAndGoes_L_bounces rfl rfl rfl (by decide +kernel) ⟨Nat.le_of_ble_eq_true rfl, Nat.le_of_ble_eq_true rfl⟩
  refine lv_iload hx hb dL_comesAndGoes_265 (lv_at hl 8 rfl) ?_
  refine lv_if_eq (tgt := 295) hx hb dL_comesAndGoes_267 (by decide) (fun c267 => ?_) (fun c267 => ?_)
  · -- 267 taken
    exact absurd c267 (by decide)
  · -- 267 on
    rw [show (0 : Int32) = nI 0 from rfl] at c267
    rw [nI_eq (by omega) (by omega)] at c267
    refine lv_aload_n hx hb dL_comesAndGoes_270 rfl (lv_at hl 0 rfl) ?_
    refine lv_iload hx hb dL_comesAndGoes_271 (lv_at hl 5 rfl) ?_
    refine zcW (wf := fun (_ : Unit) => (wCG a cI cZ ((((bncL (q) n 0 0 (B1) (R1)).2.1, mkB (bncL (q) n 0 0 (B1) (R1)).2.2 (q))).1) ((((bncL (q) n 0 0 (B1) (R1)).2.1, mkB (bncL (q) n 0 0 (B1) (R1)).2.2 (q))).2) E2 (td) qk (fil (kpF B) n))) kCG F (zwCG hP hD hS hA) hK hX hZ (c_L_bounces_0 l D cI cZ a H.size (B1) (R1) (E2) (td) (n) (q + 1) (q) (by first | assumption | omega) (by first | assumption | omega) (by first | assumption | omega) (by omega) (by omega) f3 f4 f7) cw_bounces_0 (by decide) (fun _ => rfl) rfl hl.1 rfl (Nat.le_of_ble_eq_true rfl) dL_comesAndGoes_273 ⟨Nat.le_of_ble_eq_true rfl, Nat.le_of_ble_eq_true rfl⟩ (fun r273 u H locs hw hP hD hS => ?_)
    have hw : r273 = nI (bncL (q) n 0 0 (B1) (R1)).1 := hw
    subst hw
    have hP : va_P D vwCl (wCG a cI cZ ((((bncL (q) n 0 0 (B1) (R1)).2.1, mkB (bncL (q) n 0 0 (B1) (R1)).2.2 (q))).1) ((((bncL (q) n 0 0 (B1) (R1)).2.1, mkB (bncL (q) n 0 0 (B1) (R1)).2.2 (q))).2) E2 (td) qk (fil (kpF B) n)) H := hP
    have hD : va_D A (wCG a cI cZ ((((bncL (q) n 0 0 (B1) (R1)).2.1, mkB (bncL (q) n 0 0 (B1) (R1)).2.2 (q))).1) ((((bncL (q) n 0 0 (B1) (R1)).2.1, mkB (bncL (q) n 0 0 (B1) (R1)).2.2 (q))).2) E2 (td) qk (fil (kpF B) n)) := hD
    refine lv_iload hx hb dL_comesAndGoes_276 (lv_at hl 4 rfl) ?_
    refine lv_iload hx hb dL_comesAndGoes_278 (lv_at hl 6 rfl) ?_
    refine lv_icmp_le (tgt := 287) hx hb dL_comesAndGoes_280 (by decide) (fun c280 => ?_) (fun c280 => ?_)
    · -- 280 taken
      refine lv_iconst (v := nI (0)) hx hb dL_comesAndGoes_287 (by decide) ?_
      refine lv_icmp_lt (tgt := 295) hx hb dL_comesAndGoes_288 (by decide) (fun c288 => ?_) (fun c288 => ?_)
      · -- 288 taken
        exact absurd c288 fd
      · -- 288 on
        refine lv_iconst (v := nI (1)) hx hb dL_comesAndGoes_291 (by decide) ?_
        refine lv_goto (tgt := 296) hx hb dL_comesAndGoes_292 (by decide) ?_
        refine lv_istore (lv' := [(10, .int (nI (1))), (0, .ref (a 0)), (1, .int (nI (x))), (3, .ref (qk)), (2, .int (nI (n))), (6, .int (nI (cgAm x))), (7, .int (nI (q))), (8, .int (R1 3 (q))), (9, .int (R1 0 (q))), (11, .int (l_sum (B1 8) n))]) hx hb dL_comesAndGoes_296 hl (by decide) rfl (fun ls hl => ?_)
        exact k298 _ _ rfl rfl _ _ _ hP hD hS (lv_sub hl [1, 2, 3, 4, 0, 9] rfl)
    · -- 280 on
      refine lv_iconst (v := nI (1)) hx hb dL_comesAndGoes_283 (by decide) ?_
      refine lv_goto (tgt := 288) hx hb dL_comesAndGoes_284 (by decide) ?_
      refine lv_icmp_lt (tgt := 295) hx hb dL_comesAndGoes_288 (by decide) (fun c288 => ?_) (fun c288 => ?_)
      · -- 288 taken
        exact absurd c288 (fc (lt_of_nge32 c280))
      · -- 288 on
        refine lv_iconst (v := nI (1)) hx hb dL_comesAndGoes_291 (by decide) ?_
        refine lv_goto (tgt := 296) hx hb dL_comesAndGoes_292 (by decide) ?_
        refine lv_istore (lv' := [(10, .int (nI (1))), (0, .ref (a 0)), (1, .int (nI (x))), (3, .ref (qk)), (2, .int (nI (n))), (6, .int (nI (cgAm x))), (7, .int (nI (q))), (8, .int (R1 3 (q))), (9, .int (R1 0 (q))), (11, .int (l_sum (B1 8) n))]) hx hb dL_comesAndGoes_296 hl (by decide) rfl (fun ls hl => ?_)
        exact k298 _ _ rfl rfl _ _ _ hP hD hS (lv_sub hl [1, 2, 3, 4, 0, 9] rfl)
set_option maxHeartbeats 8000000 in
set_option maxRecDepth 100000 in
theorem cg_j {p : Program} {l : Launch} {e : Env} {s : State} {m : MethodId} {args : Array Value} {below : List Frame} {meth : Method} {c : Code} {Q : State → Prop} {D : va_G} {A : Nat → Prop} {cI cZ : ClassId} {a : Nat → Nat} {B R E : Nat → Nat → Int32} {td : Int32} {H : Heap} {locs : List Loc} {ls : Array Slot} (n : Nat) (q : Nat) (x : Nat) (qk : Nat) (B1 : Nat → Nat → Int32) (B3 : Nat → Nat → Int32) (R3 : Nat → Nat → Int32) (E2 : Nat → Nat → Int32) (F : CallFix p m c cL_comesAndGoes 13 s args wsL_comesAndGoes RL) (hK : va_K D vwCl (tyl cI cZ) s) (hA : ∀ q : Nat, s.heap.size ≤ q → A q) (hX : ExB s) (hZ : ExZ A s s.heap) (hfl : l.stackTraces = false) (hn : n ≤ 40) (hB : B3 11 0 = nI n) (fe : ∀ k, k < n → B3 8 k ≤ l_sum (B1 8) n ∧ (kpF B k = kpF B3 k ∨ (B3 8 k = 0 ∧ ¬ B3 5 k < 0))) (hP : va_P D vwCl (wCG a cI cZ B3 R3 E2 (td) qk (fil (kpF B) n)) H) (hD : va_D A (wCG a cI cZ B3 R3 E2 (td) qk (fil (kpF B) n))) (hS : va_S A s.heap H locs) (hl : lv_has ls 13 [(0, .ref (a 0)), (1, .int (nI (x))), (3, .ref (qk)), (2, .int (nI (n))), (10, .int (nI (1))), (11, .int (l_sum (B1 8) n))])
    (k385 : ∀ (H : Heap) (locs : List Loc) (ls : Array Slot), va_P D vwCl (wCG a cI cZ B3 R3 E2 (td) qk (fil (kpF B) n)) H → va_D A (wCG a cI cZ B3 R3 E2 (td) qk (fil (kpF B) n)) → va_S A s.heap H locs → lv_has ls 13 [(0, .ref (a 0)), (1, .int (nI (x))), (10, .int (nI (1)))] → W p l e ({ frames := 9, cells := 1, slots := 40, locals := 184 } : Room) s m args below meth c H locs 1 40 Q (F0 m 385 ls [])) :
    W p l e ({ frames := 9, cells := 1, slots := 40, locals := 184 } : Room) s m args below meth c H locs 1 40 Q (F0 m 298 ls []) := by
  obtain ⟨hx, hb, hml, hown, hts⟩ := id F
  have cw_disputed_0 : vx_CSW ({ frames := 9, cells := 1, slots := 40, locals := 184 } : Room) s args RL 132 yL_disputed cL_disputed 3 (some .int) [(0, 5, 6, 13)] wsL_disputed ({ frames := 2, cells := 0, slots := 0, locals := 42 } : Room) 0 0 2 := vx_cwSW 2 hts gL_comesAndGoes_L_disputed rfl rfl rfl (by decide +kernel) ⟨Nat.le_of_ble_eq_true rfl, Nat.le_of_ble_eq_true rfl⟩
  have cw_open_0 : vx_CSW ({ frames := 9, cells := 1, slots := 40, locals := 184 } : Room) s args RL 124 yL_open cL_open 3 (some .int) [(0, 5, 6, 13)] wsL_open ({ frames := 2, cells := 0, slots := 0, locals := 42 } : Room) 0 0 2 := vx_cwSW 2 hts gL_comesAndGoes_L_open rfl rfl rfl (by decide +kernel) ⟨Nat.le_of_ble_eq_true rfl, Nat.le_of_ble_eq_true rfl⟩
  have cw_paid_0 : vx_CSW ({ frames := 9, cells := 1, slots := 40, locals := 184 } : Room) s args RL 128 yL_paid cL_paid 3 (some .int) [(0, 5, 6, 13)] wsL_paid ({ frames := 2, cells := 0, slots := 0, locals := 42 } : Room) 0 0 2 := vx_cwSW 2 hts gL_comesAndGoes_L_paid rfl rfl rfl (by decide +kernel) ⟨Nat.le_of_ble_eq_true rfl, Nat.le_of_ble_eq_true rfl⟩
  have cw_taken_0 : vx_CSW ({ frames := 9, cells := 1, slots := 40, locals := 184 } : Room) s args RL 130 yL_taken cL_taken 3 (some .int) [(0, 5, 6, 13)] wsL_taken ({ frames := 2, cells := 0, slots := 0, locals := 42 } : Room) 0 0 2 := vx_cwSW 2 hts gL_comesAndGoes_L_taken rfl rfl rfl (by decide +kernel) ⟨Nat.le_of_ble_eq_true rfl, Nat.le_of_ble_eq_true rfl⟩
  refine lv_iconst (v := nI (0)) hx hb dL_comesAndGoes_298 (by decide) ?_
  refine lv_istore (lv' := [(12, .int (nI (0))), (0, .ref (a 0)), (1, .int (nI (x))), (3, .ref (qk)), (2, .int (nI (n))), (10, .int (nI (1))), (11, .int (l_sum (B1 8) n))]) hx hb dL_comesAndGoes_299 hl (by decide) rfl (fun ls hl => ?_)
  have loop301 : ∀ (fu : Nat) (i : Nat) (hi : i ≤ n) (hfu : n - i < fu) (H : Heap) (locs : List Loc) (hP : va_P D vwCl (wCG a cI cZ B3 R3 E2 (td) qk (fil (kpF B) n)) H) (hD : va_D A (wCG a cI cZ B3 R3 E2 (td) qk (fil (kpF B) n))) (hS : va_S A s.heap H locs) (ls : Array Slot) (hl : lv_has ls 13 [(0, .ref (a 0)), (1, .int (nI (x))), (2, .int (nI (n))), (3, .ref (qk)), (10, .int (nI (1))), (11, .int (l_sum (B1 8) n)), (12, .int (nI (i)))]), W p l e ({ frames := 9, cells := 1, slots := 40, locals := 184 } : Room) s m args below meth c H locs 1 40 Q (F0 m 301 ls []) := by
    clear hP hD hS hl
    intro fu301
    induction fu301 with
    | zero => intro i hi hfu; exact absurd hfu (Nat.not_lt_zero _)
    | succ fu301 ih301 =>
      intro i hi hfu H locs hP hD hS ls hl
      refine lv_iload hx hb dL_comesAndGoes_301 (lv_at hl 6 rfl) ?_
      refine lv_iload_n hx hb dL_comesAndGoes_303 rfl (lv_at hl 2 rfl) ?_
      refine lv_icmp_ge (tgt := 385) hx hb dL_comesAndGoes_304 (by decide) (fun c304 => ?_) (fun c304 => ?_)
      · -- 304 taken
        rw [nI_leI (by omega) (by omega)] at c304
        exact k385  _ _ _ hP hD hS (lv_sub hl [0, 1, 4] rfl)
      · -- 304 on
        rw [nI_leI (by omega) (by omega)] at c304
        refine lv_iload hx hb dL_comesAndGoes_307 (lv_at hl 4 rfl) ?_
        refine lv_if_eq (tgt := 385) hx hb dL_comesAndGoes_309 (by decide) (fun c309 => ?_) (fun c309 => ?_)
        · -- 309 taken
          exact absurd c309 (by decide)
        · -- 309 on
          rw [show (0 : Int32) = nI 0 from rfl] at c309
          rw [nI_eq (by omega) (by omega)] at c309
          refine lv_aload_n hx hb dL_comesAndGoes_312 rfl (lv_at hl 0 rfl) ?_
          refine lv_iload hx hb dL_comesAndGoes_313 (lv_at hl 6 rfl) ?_
          refine zkW (v := (B3) 8 i) kCG F (zwCG hP hD hS hA) hK hX hZ (c_L_disputed_0 l D cI cZ a H.size (B3) (R3) (E2) (td) (n) (i) (by first | assumption | omega) (by first | assumption | omega) (by first | assumption | omega)) cw_disputed_0 (by decide) rfl rfl hl.1 rfl (Nat.le_of_ble_eq_true rfl) dL_comesAndGoes_315 ⟨Nat.le_of_ble_eq_true rfl, Nat.le_of_ble_eq_true rfl⟩ (fun H locs hP hD hS => ?_)
          refine lv_iload hx hb dL_comesAndGoes_318 (lv_at hl 5 rfl) ?_
          refine lv_icmp_gt (tgt := 376) hx hb dL_comesAndGoes_320 (by decide) (fun c320 => ?_) (fun c320 => ?_)
          · -- 320 taken
            exact absurd c320 (Int32.not_lt.mpr (fe i (by omega)).1)
          · -- 320 on
            refine lv_aload_n hx hb dL_comesAndGoes_323 rfl (lv_at hl 3 rfl) ?_
            refine lv_iload hx hb dL_comesAndGoes_324 (lv_at hl 6 rfl) ?_
            refine zald hx hb hK hP 26 (n := 40) (f := (fil (kpF B) n)) rfl (i) rfl (by omega) (by decide) dL_comesAndGoes_326 ?_
            refine lv_aload_n hx hb dL_comesAndGoes_327 rfl (lv_at hl 0 rfl) ?_
            refine lv_iload hx hb dL_comesAndGoes_328 (lv_at hl 6 rfl) ?_
            refine zkW (v := opn (B3) i) kCG F (zwCG hP hD hS hA) hK hX hZ (c_L_open_0 l D cI cZ a H.size (B3) (R3) (E2) (td) (n) (i) (by first | assumption | omega) (by first | assumption | omega) (by first | assumption | omega)) cw_open_0 (by decide) rfl rfl hl.1 rfl (Nat.le_of_ble_eq_true rfl) dL_comesAndGoes_330 ⟨Nat.le_of_ble_eq_true rfl, Nat.le_of_ble_eq_true rfl⟩ (fun H locs hP hD hS => ?_)
            refine lv_iconst (v := nI (2)) hx hb dL_comesAndGoes_333 (by decide) ?_
            refine lv_aload_n hx hb dL_comesAndGoes_334 rfl (lv_at hl 0 rfl) ?_
            refine lv_iload hx hb dL_comesAndGoes_335 (lv_at hl 6 rfl) ?_
            refine zkW (v := (B3) 5 i) kCG F (zwCG hP hD hS hA) hK hX hZ (c_L_paid_0 l D cI cZ a H.size (B3) (R3) (E2) (td) (n) (i) (by first | assumption | omega) (by first | assumption | omega) (by first | assumption | omega)) cw_paid_0 (by decide) rfl rfl hl.1 rfl (Nat.le_of_ble_eq_true rfl) dL_comesAndGoes_337 ⟨Nat.le_of_ble_eq_true rfl, Nat.le_of_ble_eq_true rfl⟩ (fun H locs hP hD hS => ?_)
            refine lv_imul hx hb dL_comesAndGoes_340 ?_
            refine lv_iadd hx hb dL_comesAndGoes_341 ?_
            refine lv_iconst (v := nI (3)) hx hb dL_comesAndGoes_342 (by decide) ?_
            refine lv_aload_n hx hb dL_comesAndGoes_343 rfl (lv_at hl 0 rfl) ?_
            refine lv_iload hx hb dL_comesAndGoes_344 (lv_at hl 6 rfl) ?_
            refine zkW (v := (B3) 6 i) kCG F (zwCG hP hD hS hA) hK hX hZ (c_L_taken_0 l D cI cZ a H.size (B3) (R3) (E2) (td) (n) (i) (by first | assumption | omega) (by first | assumption | omega) (by first | assumption | omega)) cw_taken_0 (by decide) rfl rfl hl.1 rfl (Nat.le_of_ble_eq_true rfl) dL_comesAndGoes_346 ⟨Nat.le_of_ble_eq_true rfl, Nat.le_of_ble_eq_true rfl⟩ (fun H locs hP hD hS => ?_)
            refine lv_imul hx hb dL_comesAndGoes_349 ?_
            refine lv_iadd hx hb dL_comesAndGoes_350 ?_
            refine lv_icmp_eq (tgt := 372) hx hb dL_comesAndGoes_351 (by decide) (fun c351 => ?_) (fun c351 => ?_)
            · -- 351 taken
              refine lv_iconst (v := nI (1)) hx hb dL_comesAndGoes_372 (by decide) ?_
              refine lv_goto (tgt := 377) hx hb dL_comesAndGoes_373 (by decide) ?_
              refine lv_istore (lv' := [(10, .int (nI (1))), (0, .ref (a 0)), (1, .int (nI (x))), (2, .int (nI (n))), (3, .ref (qk)), (11, .int (l_sum (B1 8) n)), (12, .int (nI (i)))]) hx hb dL_comesAndGoes_377 hl (by decide) rfl (fun ls hl => ?_)
              refine lv_iinc (v := nI (i + 1)) (lv' := [(12, .int (nI (i + 1))), (10, .int (nI (1))), (0, .ref (a 0)), (1, .int (nI (x))), (2, .int (nI (n))), (3, .ref (qk)), (11, .int (l_sum (B1 8) n))]) hx hb dL_comesAndGoes_379 hl (k := 6) rfl (nI_1 _) (by decide) rfl (fun ls hl => ?_)
              refine lv_goto (tgt := 301) hx hb dL_comesAndGoes_382 (by decide) ?_
              exact ih301 (i + 1) (by omega) (by omega) _ _ hP hD hS _ (lv_sub hl [2, 3, 4, 5, 1, 6, 0] rfl)
            · -- 351 on
              refine lv_aload_n hx hb dL_comesAndGoes_354 rfl (lv_at hl 0 rfl) ?_
              refine lv_iload hx hb dL_comesAndGoes_355 (lv_at hl 6 rfl) ?_
              refine zkW (v := (B3) 8 i) kCG F (zwCG hP hD hS hA) hK hX hZ (c_L_disputed_0 l D cI cZ a H.size (B3) (R3) (E2) (td) (n) (i) (by first | assumption | omega) (by first | assumption | omega) (by first | assumption | omega)) cw_disputed_0 (by decide) rfl rfl hl.1 rfl (Nat.le_of_ble_eq_true rfl) dL_comesAndGoes_357 ⟨Nat.le_of_ble_eq_true rfl, Nat.le_of_ble_eq_true rfl⟩ (fun H locs hP hD hS => ?_)
              refine lv_if_ne (tgt := 376) hx hb dL_comesAndGoes_360 (by decide) (fun c360 => ?_) (fun c360 => ?_)
              · -- 360 taken
                exact absurd ((fe i (by omega)).2.resolve_left (fun z => c351 ((fil_lt (by omega)).trans z))).1 c360
              · -- 360 on
                refine lv_aload_n hx hb dL_comesAndGoes_363 rfl (lv_at hl 0 rfl) ?_
                refine lv_iload hx hb dL_comesAndGoes_364 (lv_at hl 6 rfl) ?_
                refine zkW (v := (B3) 5 i) kCG F (zwCG hP hD hS hA) hK hX hZ (c_L_paid_0 l D cI cZ a H.size (B3) (R3) (E2) (td) (n) (i) (by first | assumption | omega) (by first | assumption | omega) (by first | assumption | omega)) cw_paid_0 (by decide) rfl rfl hl.1 rfl (Nat.le_of_ble_eq_true rfl) dL_comesAndGoes_366 ⟨Nat.le_of_ble_eq_true rfl, Nat.le_of_ble_eq_true rfl⟩ (fun H locs hP hD hS => ?_)
                refine lv_if_lt (tgt := 376) hx hb dL_comesAndGoes_369 (by decide) (fun c369 => ?_) (fun c369 => ?_)
                · -- 369 taken
                  exact absurd c369 ((fe i (by omega)).2.resolve_left (fun z => c351 ((fil_lt (by omega)).trans z))).2
                · -- 369 on
                  refine lv_iconst (v := nI (1)) hx hb dL_comesAndGoes_372 (by decide) ?_
                  refine lv_goto (tgt := 377) hx hb dL_comesAndGoes_373 (by decide) ?_
                  refine lv_istore (lv' := [(10, .int (nI (1))), (0, .ref (a 0)), (1, .int (nI (x))), (2, .int (nI (n))), (3, .ref (qk)), (11, .int (l_sum (B1 8) n)), (12, .int (nI (i)))]) hx hb dL_comesAndGoes_377 hl (by decide) rfl (fun ls hl => ?_)
                  refine lv_iinc (v := nI (i + 1)) (lv' := [(12, .int (nI (i + 1))), (10, .int (nI (1))), (0, .ref (a 0)), (1, .int (nI (x))), (2, .int (nI (n))), (3, .ref (qk)), (11, .int (l_sum (B1 8) n))]) hx hb dL_comesAndGoes_379 hl (k := 6) rfl (nI_1 _) (by decide) rfl (fun ls hl => ?_)
                  refine lv_goto (tgt := 301) hx hb dL_comesAndGoes_382 (by decide) ?_
                  exact ih301 (i + 1) (by omega) (by omega) _ _ hP hD hS _ (lv_sub hl [2, 3, 4, 5, 1, 6, 0] rfl)
  exact loop301 _ (0) (Nat.zero_le _) (Nat.lt_succ_self _) _ _ hP hD hS _ (lv_sub hl [1, 2, 4, 3, 5, 6, 0] rfl)
set_option maxHeartbeats 8000000 in
set_option maxRecDepth 100000 in
theorem c_L_comesAndGoes (l : Launch) (hfl : l.stackTraces = false) (D : va_G) (cI cZ : ClassId) (sz : Nat) (a : Nat → Nat) (B R E : Nat → Nat → Int32) (td : Int32) (n : Nat) (q : Nat) (x : Nat) (hn : n ≤ 40) (hB : B 11 0 = nI n) (hR : R 8 0 = nI q) (hq : q ≤ 30) (hx9 : x < 2147483648) (hok : q < 30 → CGok B (cgS B R E td n q x).1 (cgS B R E td n q x).2.1 (cgS B R E td n q x).2.2 td n q x) : Met l yL_comesAndGoes wsL_comesAndGoes ({ frames := 9, cells := 1, slots := 40, locals := 184 } : Room) (va_Pc [.ref (a 0), .int (nI (x))] (PreX D cI cZ (wCA a cI cZ B R E (td)) sz)) (va_Qi (fun (r : Int32) (u : (Nat → Nat → Int32) × (Nat → Nat → Int32) × (Nat → Nat → Int32)) => r = 1 ∧ CGend B R E td n q x u) (fun (u : (Nat → Nat → Int32) × (Nat → Nat → Int32) × (Nat → Nat → Int32)) => PostW D cI cZ (va_A (wCA a cI cZ B R E (td)) sz) (wCA a cI cZ u.1 u.2.1 u.2.2 (td))) (va_A (wCA a cI cZ B R E (td)) sz)) 1 40 (va_A (wCA a cI cZ B R E (td)) sz) := by
  refine Met.ofW (cc := cL_comesAndGoes) (maxL := 13) (ret := (some .boolean)) (by decide) rfl ?_
  intro p e s m args below meth c s₁ BB hml hv
  obtain ⟨rfl, ⟨hsz, hP, hK, hD0⟩, hX, hZ⟩ := hv
  have hx := BB.exec
  have hb := BB.bytes
  have hr := BB.returns
  have hts := atoms_spec (ws := wsL_comesAndGoes) BB.pre
  have hown : s.vm.findClass RL = some m.cls := findClass_of_methodNamed BB.named
  have hlocks := BB.notSynchronized
  clear BB
  subst hsz
  have hD := hD0.self (sz := s.heap.size)
  clear hD0
  generalize hAe : va_A (wCA a cI cZ B R E (td)) s.heap.size = A at hD hZ ⊢
  have hA : ∀ q : Nat, s.heap.size ≤ q → A q := fun q h => by rw [← hAe]; exact Or.inr h
  clear hAe
  have hl := lv_entry ([.ref (a 0), .int (nI (x))]) (n := 13) (Nat.le_of_ble_eq_true rfl)
  rw [lg_entry_eq]
  generalize (lg_sl ([.ref (a 0), .int (nI (x))]) ++ List.replicate (13 - (lg_sl ([.ref (a 0), .int (nI (x))])).length) Slot.unset).toArray = ls at hl ⊢
  have hl : lv_has ls 13 [(0, .ref (a 0)), (1, .int (nI (x)))] := hl
  have F : CallFix p m c cL_comesAndGoes 13 s ([.ref (a 0), .int (nI (x))] : List Value).toArray wsL_comesAndGoes RL := ⟨hx, hb, hml, hown, hts⟩
  have hS : va_S A s.heap s.heap [] := va_S.rf
  refine lv_aload_n hx hb dL_comesAndGoes_0 rfl (lv_at hl 0 rfl) ?_
  refine zkV (v := R 8 0) kCA (ci := 3) (q0 := 0) F (zwCA hP hD hS hA) hK (c_X3_receipts l D cI cZ a s.heap.size B R E td) (cwV 0 hts gL_comesAndGoes_X3_receipts rfl rfl rfl (by decide +kernel) ⟨Nat.le_of_ble_eq_true rfl, Nat.le_of_ble_eq_true rfl⟩) rfl rfl (by decide) rfl rfl hl.1 rfl (Nat.le_of_ble_eq_true rfl) dL_comesAndGoes_1 ⟨Nat.le_of_ble_eq_true rfl, Nat.le_of_ble_eq_true rfl⟩ (fun H locs hP hD hS => ?_)
  rw [hR]
  refine lv_bipush (v := nI (30)) hx hb dL_comesAndGoes_4 (by decide) ?_
  refine lv_icmp_ne (tgt := 11) hx hb dL_comesAndGoes_6 (by decide) (fun c6 => ?_) (fun c6 => ?_)
  rotate_left
  · have hq3 : q = 30 := by rw [nI_eq (by omega) (by omega)] at c6; exact c6
    refine lv_iconst (v := nI (1)) hx hb dL_comesAndGoes_9 (by decide) ?_
    refine W.widen (k := 1) (n := 40) (Nat.le_of_ble_eq_true rfl) (Nat.le_of_ble_eq_true rfl) ?_
    exact W.zret (ty := .boolean) (v := nI (1)) hx hb hr (by decide) (fun t ht hW => ⟨⟨nI (1), (B, R, E), rfl, ⟨rfl, Or.inl ⟨hq3, rfl⟩⟩, by rw [ht]; exact hP, va_K.moved hW.alike hK, hD⟩, hS.F ht⟩) hS.2.2 dL_comesAndGoes_10
  have hq3 : q < 30 := by rw [nI_eq (by omega) (by omega)] at c6; omega
  have hok1 := hok hq3
  refine cg_a (B := B) (R := R) (E := E) n q x F hK hA hX hZ hfl hn hB hR hP hD hS hl (fun qk H locs ls hP hD hS hl => ?_)
  refine cg_b (B := B) (R := R) (E := E) n q x qk F hK hA hX hZ hfl hn hx9 hP hD hS hl (fun H locs ls hP hD hS hl => ?_)
  refine cg_c (B := B) (R := R) (E := E) n q x qk F hK hA hX hZ hfl hn hB hR hq3 hx9 hP hD hS hl (fun B1 R1 E1 h1 H locs ls hP hD hS hl => ?_)
  have hok1 : CGok B B1 R1 E1 td n q x := by rw [h1] at hok1; exact hok1
  obtain ⟨f1, f2, f3, f4, f7, f5, f6, f8, f9, fa, fb, fc, fd, fg, fe⟩ := hok1
  refine cg_d (B := B) (R := R) (E := E) n q x qk B1 R1 E1 F hK hA hX hZ hfl hn hq3 f1 f2 f5 f6 f8 hP hD hS hl (fun H locs ls hP hD hS hl => ?_)
  refine cg_e (B := B) (R := R) (E := E) n q x qk B1 R1 E1 F hK hA hX hZ hfl hn f9 hP hD hS hl (fun H locs ls hP hD hS hl => ?_)
  refine cg_f (B := B) (R := R) (E := E) n q x qk B1 R1 E1 F hK hA hX hZ hfl hn hq3 f1 f2 fa fb hP hD hS hl (fun H locs ls hP hD hS hl => ?_)
  refine cg_g (B := B) (R := R) (E := E) n q x qk B1 R1 E1 F hK hA hX hZ hfl hn hq3 f1 f2 fa fb f3 hP hD hS hl (fun E2 H locs ls hP hD hS hl => ?_)
  refine cg_h (B := B) (R := R) (E := E) n q x qk B1 R1 E2 F hK hA hX hZ hfl hn f1 hP hD hS hl (fun H locs ls hP hD hS hl => ?_)
  refine cg_i (B := B) (R := R) (E := E) n q x qk B1 R1 E2 F hK hA hX hZ hfl hn hq3 f1 f2 f3 f4 f7 fc fd hP hD hS hl (fun B3 R3 h3 h4 H locs ls hP hD hS hl => ?_)
  rw [← h3] at fg fe
  refine cg_j (B := B) (R := R) (E := E) n q x qk B1 B3 R3 E2 F hK hA hX hZ hfl hn fg fe hP hD hS hl (fun H locs ls hP hD hS hl => ?_)
  have hP : va_P D vwCl (wCA a cI cZ B3 R3 E2 td) H := hP.sub (List.range 26) rfl
  have hD : va_D A (wCA a cI cZ B3 R3 E2 td) := hD.sub (List.range 26) (by decide) rfl
  refine lv_iload hx hb dL_comesAndGoes_385 (lv_at hl 2 rfl) ?_
  exact W.zret (ty := .boolean) (v := nI (1)) hx hb hr (by decide) (fun t ht hW => ⟨⟨nI (1), (B3, R3, E2), rfl, ⟨rfl, Or.inr ⟨hq3, by rw [h1]; exact h3, by rw [h1]; exact h4⟩⟩, by rw [ht]; exact hP, va_K.moved hW.alike hK, hD⟩, hS.F ht⟩) hS.2.2 dL_comesAndGoes_387
