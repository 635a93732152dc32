theorem dL_refuses_0 : decode cL_refuses 0 = .ok (.iload_n 1, 1) := by decide +kernel
theorem dL_refuses_1 : decode cL_refuses 1 = .ok (.iconst 2, 1) := by decide +kernel
theorem dL_refuses_2 : decode cL_refuses 2 = .ok (.irem, 1) := by decide +kernel
theorem dL_refuses_3 : decode cL_refuses 3 = .ok (.ifCond .ne 13, 3) := by decide +kernel
theorem dL_refuses_6 : decode cL_refuses 6 = .ok (.bipush (-2), 2) := by decide +kernel
theorem dL_refuses_8 : decode cL_refuses 8 = .ok (.iload_n 1, 1) := by decide +kernel
theorem dL_refuses_9 : decode cL_refuses 9 = .ok (.bipush 50, 2) := by decide +kernel
theorem dL_refuses_11 : decode cL_refuses 11 = .ok (.irem, 1) := by decide +kernel
theorem dL_refuses_12 : decode cL_refuses 12 = .ok (.isub, 1) := by decide +kernel
theorem dL_refuses_13 : decode cL_refuses 13 = .ok (.goto 10, 3) := by decide +kernel
theorem dL_refuses_16 : decode cL_refuses 16 = .ok (.bipush 8, 2) := by decide +kernel
theorem dL_refuses_18 : decode cL_refuses 18 = .ok (.iload_n 1, 1) := by decide +kernel
theorem dL_refuses_19 : decode cL_refuses 19 = .ok (.bipush 50, 2) := by decide +kernel
theorem dL_refuses_21 : decode cL_refuses 21 = .ok (.irem, 1) := by decide +kernel
theorem dL_refuses_22 : decode cL_refuses 22 = .ok (.iadd, 1) := by decide +kernel
theorem dL_refuses_23 : decode cL_refuses 23 = .ok (.istore_n 2, 1) := by decide +kernel
theorem dL_refuses_24 : decode cL_refuses 24 = .ok (.iload_n 1, 1) := by decide +kernel
theorem dL_refuses_25 : decode cL_refuses 25 = .ok (.iconst 2, 1) := by decide +kernel
theorem dL_refuses_26 : decode cL_refuses 26 = .ok (.irem, 1) := by decide +kernel
theorem dL_refuses_27 : decode cL_refuses 27 = .ok (.ifCond .ne 12, 3) := by decide +kernel
theorem dL_refuses_30 : decode cL_refuses 30 = .ok (.iconst (-1), 1) := by decide +kernel
theorem dL_refuses_31 : decode cL_refuses 31 = .ok (.iload_n 1, 1) := by decide +kernel
theorem dL_refuses_32 : decode cL_refuses 32 = .ok (.bipush 50, 2) := by decide +kernel
theorem dL_refuses_34 : decode cL_refuses 34 = .ok (.irem, 1) := by decide +kernel
theorem dL_refuses_35 : decode cL_refuses 35 = .ok (.isub, 1) := by decide +kernel
theorem dL_refuses_36 : decode cL_refuses 36 = .ok (.goto 12, 3) := by decide +kernel
theorem dL_refuses_39 : decode cL_refuses 39 = .ok (.aload_n 0, 1) := by decide +kernel
theorem dL_refuses_40 : decode cL_refuses 40 = .ok (.invokevirtual 86, 3) := by decide +kernel
theorem dL_refuses_43 : decode cL_refuses 43 = .ok (.iload_n 1, 1) := by decide +kernel
theorem dL_refuses_44 : decode cL_refuses 44 = .ok (.bipush 50, 2) := by decide +kernel
theorem dL_refuses_46 : decode cL_refuses 46 = .ok (.irem, 1) := by decide +kernel
theorem dL_refuses_47 : decode cL_refuses 47 = .ok (.iadd, 1) := by decide +kernel
theorem dL_refuses_48 : decode cL_refuses 48 = .ok (.istore_n 3, 1) := by decide +kernel
theorem dL_refuses_49 : decode cL_refuses 49 = .ok (.iload_n 1, 1) := by decide +kernel
theorem dL_refuses_50 : decode cL_refuses 50 = .ok (.iconst 2, 1) := by decide +kernel
theorem dL_refuses_51 : decode cL_refuses 51 = .ok (.irem, 1) := by decide +kernel
theorem dL_refuses_52 : decode cL_refuses 52 = .ok (.ifCond .ne 12, 3) := by decide +kernel
theorem dL_refuses_55 : decode cL_refuses 55 = .ok (.iconst (-1), 1) := by decide +kernel
theorem dL_refuses_56 : decode cL_refuses 56 = .ok (.iload_n 1, 1) := by decide +kernel
theorem dL_refuses_57 : decode cL_refuses 57 = .ok (.bipush 50, 2) := by decide +kernel
theorem dL_refuses_59 : decode cL_refuses 59 = .ok (.irem, 1) := by decide +kernel
theorem dL_refuses_60 : decode cL_refuses 60 = .ok (.isub, 1) := by decide +kernel
theorem dL_refuses_61 : decode cL_refuses 61 = .ok (.goto 12, 3) := by decide +kernel
theorem dL_refuses_64 : decode cL_refuses 64 = .ok (.aload_n 0, 1) := by decide +kernel
theorem dL_refuses_65 : decode cL_refuses 65 = .ok (.invokevirtual 90, 3) := by decide +kernel
theorem dL_refuses_68 : decode cL_refuses 68 = .ok (.iload_n 1, 1) := by decide +kernel
theorem dL_refuses_69 : decode cL_refuses 69 = .ok (.bipush 50, 2) := by decide +kernel
theorem dL_refuses_71 : decode cL_refuses 71 = .ok (.irem, 1) := by decide +kernel
theorem dL_refuses_72 : decode cL_refuses 72 = .ok (.iadd, 1) := by decide +kernel
theorem dL_refuses_73 : decode cL_refuses 73 = .ok (.istore 4, 2) := by decide +kernel
theorem dL_refuses_75 : decode cL_refuses 75 = .ok (.aload_n 0, 1) := by decide +kernel
theorem dL_refuses_76 : decode cL_refuses 76 = .ok (.iload_n 2, 1) := by decide +kernel
theorem dL_refuses_77 : decode cL_refuses 77 = .ok (.iconst 0, 1) := by decide +kernel
theorem dL_refuses_78 : decode cL_refuses 78 = .ok (.iconst 0, 1) := by decide +kernel
theorem dL_refuses_79 : decode cL_refuses 79 = .ok (.iconst 0, 1) := by decide +kernel
theorem dL_refuses_80 : decode cL_refuses 80 = .ok (.iconst 0, 1) := by decide +kernel
theorem dL_refuses_81 : decode cL_refuses 81 = .ok (.invokestatic 93, 3) := by decide +kernel
theorem dL_refuses_84 : decode cL_refuses 84 = .ok (.ldc 15, 2) := by decide +kernel
theorem dL_refuses_86 : decode cL_refuses 86 = .ok (.if_icmp .ne 268, 3) := by decide +kernel
theorem dL_refuses_89 : decode cL_refuses 89 = .ok (.aload_n 0, 1) := by decide +kernel
theorem dL_refuses_90 : decode cL_refuses 90 = .ok (.iconst (-1), 1) := by decide +kernel
theorem dL_refuses_91 : decode cL_refuses 91 = .ok (.iconst 5, 1) := by decide +kernel
theorem dL_refuses_92 : decode cL_refuses 92 = .ok (.iconst 5, 1) := by decide +kernel
theorem dL_refuses_93 : decode cL_refuses 93 = .ok (.iconst 5, 1) := by decide +kernel
theorem dL_refuses_94 : decode cL_refuses 94 = .ok (.iconst 5, 1) := by decide +kernel
theorem dL_refuses_95 : decode cL_refuses 95 = .ok (.invokestatic 93, 3) := by decide +kernel
theorem dL_refuses_98 : decode cL_refuses 98 = .ok (.ldc 15, 2) := by decide +kernel
theorem dL_refuses_100 : decode cL_refuses 100 = .ok (.if_icmp .ne 254, 3) := by decide +kernel
theorem dL_refuses_103 : decode cL_refuses 103 = .ok (.aload_n 0, 1) := by decide +kernel
theorem dL_refuses_104 : decode cL_refuses 104 = .ok (.iload_n 1, 1) := by decide +kernel
theorem dL_refuses_105 : decode cL_refuses 105 = .ok (.bipush 8, 2) := by decide +kernel
theorem dL_refuses_107 : decode cL_refuses 107 = .ok (.irem, 1) := by decide +kernel
theorem dL_refuses_108 : decode cL_refuses 108 = .ok (.iconst 0, 1) := by decide +kernel
theorem dL_refuses_109 : decode cL_refuses 109 = .ok (.iconst 5, 1) := by decide +kernel
theorem dL_refuses_110 : decode cL_refuses 110 = .ok (.iconst 5, 1) := by decide +kernel
theorem dL_refuses_111 : decode cL_refuses 111 = .ok (.iconst 5, 1) := by decide +kernel
theorem dL_refuses_112 : decode cL_refuses 112 = .ok (.invokestatic 93, 3) := by decide +kernel
theorem dL_refuses_115 : decode cL_refuses 115 = .ok (.ldc 18, 2) := by decide +kernel
theorem dL_refuses_117 : decode cL_refuses 117 = .ok (.if_icmp .ne 237, 3) := by decide +kernel
theorem dL_refuses_120 : decode cL_refuses 120 = .ok (.aload_n 0, 1) := by decide +kernel
theorem dL_refuses_121 : decode cL_refuses 121 = .ok (.iload_n 1, 1) := by decide +kernel
theorem dL_refuses_122 : decode cL_refuses 122 = .ok (.bipush 8, 2) := by decide +kernel
theorem dL_refuses_124 : decode cL_refuses 124 = .ok (.irem, 1) := by decide +kernel
theorem dL_refuses_125 : decode cL_refuses 125 = .ok (.ldc 98, 2) := by decide +kernel
theorem dL_refuses_127 : decode cL_refuses 127 = .ok (.iload_n 1, 1) := by decide +kernel
theorem dL_refuses_128 : decode cL_refuses 128 = .ok (.iadd, 1) := by decide +kernel
theorem dL_refuses_129 : decode cL_refuses 129 = .ok (.iconst 5, 1) := by decide +kernel
theorem dL_refuses_130 : decode cL_refuses 130 = .ok (.iconst 5, 1) := by decide +kernel
theorem dL_refuses_131 : decode cL_refuses 131 = .ok (.iconst 5, 1) := by decide +kernel
theorem dL_refuses_132 : decode cL_refuses 132 = .ok (.invokestatic 93, 3) := by decide +kernel
theorem dL_refuses_135 : decode cL_refuses 135 = .ok (.ldc 18, 2) := by decide +kernel
theorem dL_refuses_137 : decode cL_refuses 137 = .ok (.if_icmp .ne 217, 3) := by decide +kernel
theorem dL_refuses_140 : decode cL_refuses 140 = .ok (.aload_n 0, 1) := by decide +kernel
theorem dL_refuses_141 : decode cL_refuses 141 = .ok (.iload_n 1, 1) := by decide +kernel
theorem dL_refuses_142 : decode cL_refuses 142 = .ok (.bipush 8, 2) := by decide +kernel
theorem dL_refuses_144 : decode cL_refuses 144 = .ok (.irem, 1) := by decide +kernel
theorem dL_refuses_145 : decode cL_refuses 145 = .ok (.iconst 5, 1) := by decide +kernel
theorem dL_refuses_146 : decode cL_refuses 146 = .ok (.iconst 0, 1) := by decide +kernel
theorem dL_refuses_147 : decode cL_refuses 147 = .ok (.iconst 5, 1) := by decide +kernel
theorem dL_refuses_148 : decode cL_refuses 148 = .ok (.iconst 5, 1) := by decide +kernel
theorem dL_refuses_149 : decode cL_refuses 149 = .ok (.invokestatic 93, 3) := by decide +kernel
theorem dL_refuses_152 : decode cL_refuses 152 = .ok (.ldc 18, 2) := by decide +kernel
theorem dL_refuses_154 : decode cL_refuses 154 = .ok (.if_icmp .ne 200, 3) := by decide +kernel
theorem dL_refuses_157 : decode cL_refuses 157 = .ok (.aload_n 0, 1) := by decide +kernel
theorem dL_refuses_158 : decode cL_refuses 158 = .ok (.iload_n 1, 1) := by decide +kernel
theorem dL_refuses_159 : decode cL_refuses 159 = .ok (.bipush 8, 2) := by decide +kernel
theorem dL_refuses_161 : decode cL_refuses 161 = .ok (.irem, 1) := by decide +kernel
theorem dL_refuses_162 : decode cL_refuses 162 = .ok (.iconst 5, 1) := by decide +kernel
theorem dL_refuses_163 : decode cL_refuses 163 = .ok (.sipush 10000, 3) := by decide +kernel
theorem dL_refuses_166 : decode cL_refuses 166 = .ok (.iload_n 1, 1) := by decide +kernel
theorem dL_refuses_167 : decode cL_refuses 167 = .ok (.iadd, 1) := by decide +kernel
theorem dL_refuses_168 : decode cL_refuses 168 = .ok (.iconst 5, 1) := by decide +kernel
theorem dL_refuses_169 : decode cL_refuses 169 = .ok (.iconst 5, 1) := by decide +kernel
theorem dL_refuses_170 : decode cL_refuses 170 = .ok (.invokestatic 93, 3) := by decide +kernel
theorem dL_refuses_173 : decode cL_refuses 173 = .ok (.ldc 18, 2) := by decide +kernel
theorem dL_refuses_175 : decode cL_refuses 175 = .ok (.if_icmp .ne 179, 3) := by decide +kernel
theorem dL_refuses_178 : decode cL_refuses 178 = .ok (.aload_n 0, 1) := by decide +kernel
theorem dL_refuses_179 : decode cL_refuses 179 = .ok (.iload_n 1, 1) := by decide +kernel
theorem dL_refuses_180 : decode cL_refuses 180 = .ok (.bipush 8, 2) := by decide +kernel
theorem dL_refuses_182 : decode cL_refuses 182 = .ok (.irem, 1) := by decide +kernel
theorem dL_refuses_183 : decode cL_refuses 183 = .ok (.iconst 5, 1) := by decide +kernel
theorem dL_refuses_184 : decode cL_refuses 184 = .ok (.iconst 5, 1) := by decide +kernel
theorem dL_refuses_185 : decode cL_refuses 185 = .ok (.sipush 10001, 3) := by decide +kernel
theorem dL_refuses_188 : decode cL_refuses 188 = .ok (.iload_n 1, 1) := by decide +kernel
theorem dL_refuses_189 : decode cL_refuses 189 = .ok (.iadd, 1) := by decide +kernel
theorem dL_refuses_190 : decode cL_refuses 190 = .ok (.iconst 5, 1) := by decide +kernel
theorem dL_refuses_191 : decode cL_refuses 191 = .ok (.invokestatic 93, 3) := by decide +kernel
theorem dL_refuses_194 : decode cL_refuses 194 = .ok (.ldc 18, 2) := by decide +kernel
theorem dL_refuses_196 : decode cL_refuses 196 = .ok (.if_icmp .ne 158, 3) := by decide +kernel
theorem dL_refuses_199 : decode cL_refuses 199 = .ok (.aload_n 0, 1) := by decide +kernel
theorem dL_refuses_200 : decode cL_refuses 200 = .ok (.iload_n 1, 1) := by decide +kernel
theorem dL_refuses_201 : decode cL_refuses 201 = .ok (.bipush 8, 2) := by decide +kernel
theorem dL_refuses_203 : decode cL_refuses 203 = .ok (.irem, 1) := by decide +kernel
theorem dL_refuses_204 : decode cL_refuses 204 = .ok (.iconst 5, 1) := by decide +kernel
theorem dL_refuses_205 : decode cL_refuses 205 = .ok (.iconst 5, 1) := by decide +kernel
theorem dL_refuses_206 : decode cL_refuses 206 = .ok (.iconst (-1), 1) := by decide +kernel
theorem dL_refuses_207 : decode cL_refuses 207 = .ok (.iconst 5, 1) := by decide +kernel
theorem dL_refuses_208 : decode cL_refuses 208 = .ok (.invokestatic 93, 3) := by decide +kernel
theorem dL_refuses_211 : decode cL_refuses 211 = .ok (.ldc 18, 2) := by decide +kernel
theorem dL_refuses_213 : decode cL_refuses 213 = .ok (.if_icmp .ne 141, 3) := by decide +kernel
theorem dL_refuses_216 : decode cL_refuses 216 = .ok (.aload_n 0, 1) := by decide +kernel
theorem dL_refuses_217 : decode cL_refuses 217 = .ok (.iload_n 1, 1) := by decide +kernel
theorem dL_refuses_218 : decode cL_refuses 218 = .ok (.bipush 8, 2) := by decide +kernel
theorem dL_refuses_220 : decode cL_refuses 220 = .ok (.irem, 1) := by decide +kernel
theorem dL_refuses_221 : decode cL_refuses 221 = .ok (.iconst 5, 1) := by decide +kernel
theorem dL_refuses_222 : decode cL_refuses 222 = .ok (.iconst 5, 1) := by decide +kernel
theorem dL_refuses_223 : decode cL_refuses 223 = .ok (.iconst 5, 1) := by decide +kernel
theorem dL_refuses_224 : decode cL_refuses 224 = .ok (.bipush 91, 2) := by decide +kernel
theorem dL_refuses_226 : decode cL_refuses 226 = .ok (.iload_n 1, 1) := by decide +kernel
theorem dL_refuses_227 : decode cL_refuses 227 = .ok (.iadd, 1) := by decide +kernel
theorem dL_refuses_228 : decode cL_refuses 228 = .ok (.invokestatic 93, 3) := by decide +kernel
theorem dL_refuses_231 : decode cL_refuses 231 = .ok (.ldc 18, 2) := by decide +kernel
theorem dL_refuses_233 : decode cL_refuses 233 = .ok (.if_icmp .ne 121, 3) := by decide +kernel
theorem dL_refuses_236 : decode cL_refuses 236 = .ok (.aload_n 0, 1) := by decide +kernel
theorem dL_refuses_237 : decode cL_refuses 237 = .ok (.iload_n 2, 1) := by decide +kernel
theorem dL_refuses_238 : decode cL_refuses 238 = .ok (.iconst 0, 1) := by decide +kernel
theorem dL_refuses_239 : decode cL_refuses 239 = .ok (.iconst 0, 1) := by decide +kernel
theorem dL_refuses_240 : decode cL_refuses 240 = .ok (.invokestatic 99, 3) := by decide +kernel
theorem dL_refuses_243 : decode cL_refuses 243 = .ok (.ldc 15, 2) := by decide +kernel
theorem dL_refuses_245 : decode cL_refuses 245 = .ok (.if_icmp .ne 109, 3) := by decide +kernel
theorem dL_refuses_248 : decode cL_refuses 248 = .ok (.aload_n 0, 1) := by decide +kernel
theorem dL_refuses_249 : decode cL_refuses 249 = .ok (.iconst (-1), 1) := by decide +kernel
theorem dL_refuses_250 : decode cL_refuses 250 = .ok (.iconst 0, 1) := by decide +kernel
theorem dL_refuses_251 : decode cL_refuses 251 = .ok (.iconst 5, 1) := by decide +kernel
theorem dL_refuses_252 : decode cL_refuses 252 = .ok (.invokestatic 99, 3) := by decide +kernel
theorem dL_refuses_255 : decode cL_refuses 255 = .ok (.ldc 18, 2) := by decide +kernel
theorem dL_refuses_257 : decode cL_refuses 257 = .ok (.if_icmp .ne 97, 3) := by decide +kernel
theorem dL_refuses_260 : decode cL_refuses 260 = .ok (.aload_n 0, 1) := by decide +kernel
theorem dL_refuses_261 : decode cL_refuses 261 = .ok (.iload_n 1, 1) := by decide +kernel
theorem dL_refuses_262 : decode cL_refuses 262 = .ok (.bipush 8, 2) := by decide +kernel
theorem dL_refuses_264 : decode cL_refuses 264 = .ok (.irem, 1) := by decide +kernel
theorem dL_refuses_265 : decode cL_refuses 265 = .ok (.ldc 98, 2) := by decide +kernel
theorem dL_refuses_267 : decode cL_refuses 267 = .ok (.iload_n 1, 1) := by decide +kernel
theorem dL_refuses_268 : decode cL_refuses 268 = .ok (.iadd, 1) := by decide +kernel
theorem dL_refuses_269 : decode cL_refuses 269 = .ok (.iconst 5, 1) := by decide +kernel
theorem dL_refuses_270 : decode cL_refuses 270 = .ok (.invokestatic 99, 3) := by decide +kernel
theorem dL_refuses_273 : decode cL_refuses 273 = .ok (.ldc 18, 2) := by decide +kernel
theorem dL_refuses_275 : decode cL_refuses 275 = .ok (.if_icmp .ne 79, 3) := by decide +kernel
theorem dL_refuses_278 : decode cL_refuses 278 = .ok (.aload_n 0, 1) := by decide +kernel
theorem dL_refuses_279 : decode cL_refuses 279 = .ok (.iconst (-1), 1) := by decide +kernel
theorem dL_refuses_280 : decode cL_refuses 280 = .ok (.iconst 5, 1) := by decide +kernel
theorem dL_refuses_281 : decode cL_refuses 281 = .ok (.iconst (-1), 1) := by decide +kernel
theorem dL_refuses_282 : decode cL_refuses 282 = .ok (.invokestatic 99, 3) := by decide +kernel
theorem dL_refuses_285 : decode cL_refuses 285 = .ok (.ldc 18, 2) := by decide +kernel
theorem dL_refuses_287 : decode cL_refuses 287 = .ok (.if_icmp .ne 67, 3) := by decide +kernel
theorem dL_refuses_290 : decode cL_refuses 290 = .ok (.aload_n 0, 1) := by decide +kernel
theorem dL_refuses_291 : decode cL_refuses 291 = .ok (.iconst (-1), 1) := by decide +kernel
theorem dL_refuses_292 : decode cL_refuses 292 = .ok (.iconst 5, 1) := by decide +kernel
theorem dL_refuses_293 : decode cL_refuses 293 = .ok (.sipush 10000, 3) := by decide +kernel
theorem dL_refuses_296 : decode cL_refuses 296 = .ok (.iload_n 1, 1) := by decide +kernel
theorem dL_refuses_297 : decode cL_refuses 297 = .ok (.iadd, 1) := by decide +kernel
theorem dL_refuses_298 : decode cL_refuses 298 = .ok (.invokestatic 99, 3) := by decide +kernel
theorem dL_refuses_301 : decode cL_refuses 301 = .ok (.ldc 18, 2) := by decide +kernel
theorem dL_refuses_303 : decode cL_refuses 303 = .ok (.if_icmp .ne 51, 3) := by decide +kernel
theorem dL_refuses_306 : decode cL_refuses 306 = .ok (.aload_n 0, 1) := by decide +kernel
theorem dL_refuses_307 : decode cL_refuses 307 = .ok (.invokevirtual 90, 3) := by decide +kernel
theorem dL_refuses_310 : decode cL_refuses 310 = .ok (.bipush 40, 2) := by decide +kernel
theorem dL_refuses_312 : decode cL_refuses 312 = .ok (.if_icmp .lt 17, 3) := by decide +kernel
theorem dL_refuses_315 : decode cL_refuses 315 = .ok (.aload_n 0, 1) := by decide +kernel
theorem dL_refuses_316 : decode cL_refuses 316 = .ok (.iconst 0, 1) := by decide +kernel
theorem dL_refuses_317 : decode cL_refuses 317 = .ok (.iconst 1, 1) := by decide +kernel
theorem dL_refuses_318 : decode cL_refuses 318 = .ok (.iconst 1, 1) := by decide +kernel
theorem dL_refuses_319 : decode cL_refuses 319 = .ok (.iconst 0, 1) := by decide +kernel
theorem dL_refuses_320 : decode cL_refuses 320 = .ok (.iconst 0, 1) := by decide +kernel
theorem dL_refuses_321 : decode cL_refuses 321 = .ok (.invokestatic 93, 3) := by decide +kernel
theorem dL_refuses_324 : decode cL_refuses 324 = .ok (.ldc 21, 2) := by decide +kernel
theorem dL_refuses_326 : decode cL_refuses 326 = .ok (.if_icmp .ne 28, 3) := by decide +kernel
theorem dL_refuses_329 : decode cL_refuses 329 = .ok (.aload_n 0, 1) := by decide +kernel
theorem dL_refuses_330 : decode cL_refuses 330 = .ok (.invokevirtual 86, 3) := by decide +kernel
theorem dL_refuses_333 : decode cL_refuses 333 = .ok (.bipush 30, 2) := by decide +kernel
theorem dL_refuses_335 : decode cL_refuses 335 = .ok (.if_icmp .lt 15, 3) := by decide +kernel
theorem dL_refuses_338 : decode cL_refuses 338 = .ok (.aload_n 0, 1) := by decide +kernel
theorem dL_refuses_339 : decode cL_refuses 339 = .ok (.iconst (-1), 1) := by decide +kernel
theorem dL_refuses_340 : decode cL_refuses 340 = .ok (.iconst 1, 1) := by decide +kernel
theorem dL_refuses_341 : decode cL_refuses 341 = .ok (.iconst 0, 1) := by decide +kernel
theorem dL_refuses_342 : decode cL_refuses 342 = .ok (.invokestatic 99, 3) := by decide +kernel
theorem dL_refuses_345 : decode cL_refuses 345 = .ok (.ldc 21, 2) := by decide +kernel
theorem dL_refuses_347 : decode cL_refuses 347 = .ok (.if_icmp .ne 7, 3) := by decide +kernel
theorem dL_refuses_350 : decode cL_refuses 350 = .ok (.iconst 1, 1) := by decide +kernel
theorem dL_refuses_351 : decode cL_refuses 351 = .ok (.goto 4, 3) := by decide +kernel
theorem dL_refuses_354 : decode cL_refuses 354 = .ok (.iconst 0, 1) := by decide +kernel
theorem dL_refuses_355 : decode cL_refuses 355 = .ok (.istore 5, 2) := by decide +kernel
theorem dL_refuses_357 : decode cL_refuses 357 = .ok (.iload 5, 2) := by decide +kernel
theorem dL_refuses_359 : decode cL_refuses 359 = .ok (.ifCond .eq 245, 3) := by decide +kernel
theorem dL_refuses_362 : decode cL_refuses 362 = .ok (.aload_n 0, 1) := by decide +kernel
theorem dL_refuses_363 : decode cL_refuses 363 = .ok (.iload_n 3, 1) := by decide +kernel
theorem dL_refuses_364 : decode cL_refuses 364 = .ok (.iconst 0, 1) := by decide +kernel
theorem dL_refuses_365 : decode cL_refuses 365 = .ok (.invokestatic 103, 3) := by decide +kernel
theorem dL_refuses_368 : decode cL_refuses 368 = .ok (.ldc 15, 2) := by decide +kernel
theorem dL_refuses_370 : decode cL_refuses 370 = .ok (.if_icmp .ne 234, 3) := by decide +kernel
theorem dL_refuses_373 : decode cL_refuses 373 = .ok (.aload_n 0, 1) := by decide +kernel
theorem dL_refuses_374 : decode cL_refuses 374 = .ok (.iload_n 3, 1) := by decide +kernel
theorem dL_refuses_375 : decode cL_refuses 375 = .ok (.invokestatic 107, 3) := by decide +kernel
theorem dL_refuses_378 : decode cL_refuses 378 = .ok (.ldc 15, 2) := by decide +kernel
theorem dL_refuses_380 : decode cL_refuses 380 = .ok (.if_icmp .ne 224, 3) := by decide +kernel
theorem dL_refuses_383 : decode cL_refuses 383 = .ok (.aload_n 0, 1) := by decide +kernel
theorem dL_refuses_384 : decode cL_refuses 384 = .ok (.iload_n 3, 1) := by decide +kernel
theorem dL_refuses_385 : decode cL_refuses 385 = .ok (.invokestatic 111, 3) := by decide +kernel
theorem dL_refuses_388 : decode cL_refuses 388 = .ok (.ldc 15, 2) := by decide +kernel
theorem dL_refuses_390 : decode cL_refuses 390 = .ok (.if_icmp .ne 214, 3) := by decide +kernel
theorem dL_refuses_393 : decode cL_refuses 393 = .ok (.aload_n 0, 1) := by decide +kernel
theorem dL_refuses_394 : decode cL_refuses 394 = .ok (.iload_n 3, 1) := by decide +kernel
theorem dL_refuses_395 : decode cL_refuses 395 = .ok (.invokestatic 114, 3) := by decide +kernel
theorem dL_refuses_398 : decode cL_refuses 398 = .ok (.ldc 15, 2) := by decide +kernel
theorem dL_refuses_400 : decode cL_refuses 400 = .ok (.if_icmp .ne 204, 3) := by decide +kernel
theorem dL_refuses_403 : decode cL_refuses 403 = .ok (.aload_n 0, 1) := by decide +kernel
theorem dL_refuses_404 : decode cL_refuses 404 = .ok (.iload 4, 2) := by decide +kernel
theorem dL_refuses_406 : decode cL_refuses 406 = .ok (.iconst 1, 1) := by decide +kernel
theorem dL_refuses_407 : decode cL_refuses 407 = .ok (.invokestatic 117, 3) := by decide +kernel
theorem dL_refuses_410 : decode cL_refuses 410 = .ok (.ldc 15, 2) := by decide +kernel
theorem dL_refuses_412 : decode cL_refuses 412 = .ok (.if_icmp .ne 192, 3) := by decide +kernel
theorem dL_refuses_415 : decode cL_refuses 415 = .ok (.aload_n 0, 1) := by decide +kernel
theorem dL_refuses_416 : decode cL_refuses 416 = .ok (.iconst 0, 1) := by decide +kernel
theorem dL_refuses_417 : decode cL_refuses 417 = .ok (.invokestatic 121, 3) := by decide +kernel
theorem dL_refuses_420 : decode cL_refuses 420 = .ok (.ldc 18, 2) := by decide +kernel
theorem dL_refuses_422 : decode cL_refuses 422 = .ok (.if_icmp .ne 182, 3) := by decide +kernel
theorem dL_refuses_425 : decode cL_refuses 425 = .ok (.aload_n 0, 1) := by decide +kernel
theorem dL_refuses_426 : decode cL_refuses 426 = .ok (.bipush 101, 2) := by decide +kernel
theorem dL_refuses_428 : decode cL_refuses 428 = .ok (.iload_n 1, 1) := by decide +kernel
theorem dL_refuses_429 : decode cL_refuses 429 = .ok (.iadd, 1) := by decide +kernel
theorem dL_refuses_430 : decode cL_refuses 430 = .ok (.invokestatic 121, 3) := by decide +kernel
theorem dL_refuses_433 : decode cL_refuses 433 = .ok (.ldc 18, 2) := by decide +kernel
theorem dL_refuses_435 : decode cL_refuses 435 = .ok (.if_icmp .ne 169, 3) := by decide +kernel
theorem dL_refuses_438 : decode cL_refuses 438 = .ok (.aload_n 0, 1) := by decide +kernel
theorem dL_refuses_439 : decode cL_refuses 439 = .ok (.iload 4, 2) := by decide +kernel
theorem dL_refuses_441 : decode cL_refuses 441 = .ok (.invokestatic 124, 3) := by decide +kernel
theorem dL_refuses_444 : decode cL_refuses 444 = .ok (.ldc 15, 2) := by decide +kernel
theorem dL_refuses_446 : decode cL_refuses 446 = .ok (.if_icmp .ne 158, 3) := by decide +kernel
theorem dL_refuses_449 : decode cL_refuses 449 = .ok (.aload_n 0, 1) := by decide +kernel
theorem dL_refuses_450 : decode cL_refuses 450 = .ok (.iload 4, 2) := by decide +kernel
theorem dL_refuses_452 : decode cL_refuses 452 = .ok (.invokestatic 126, 3) := by decide +kernel
theorem dL_refuses_455 : decode cL_refuses 455 = .ok (.ldc 15, 2) := by decide +kernel
theorem dL_refuses_457 : decode cL_refuses 457 = .ok (.if_icmp .ne 147, 3) := by decide +kernel
theorem dL_refuses_460 : decode cL_refuses 460 = .ok (.aload_n 0, 1) := by decide +kernel
theorem dL_refuses_461 : decode cL_refuses 461 = .ok (.iload 4, 2) := by decide +kernel
theorem dL_refuses_463 : decode cL_refuses 463 = .ok (.invokestatic 128, 3) := by decide +kernel
theorem dL_refuses_466 : decode cL_refuses 466 = .ok (.ldc 15, 2) := by decide +kernel
theorem dL_refuses_468 : decode cL_refuses 468 = .ok (.if_icmp .ne 136, 3) := by decide +kernel
theorem dL_refuses_471 : decode cL_refuses 471 = .ok (.aload_n 0, 1) := by decide +kernel
theorem dL_refuses_472 : decode cL_refuses 472 = .ok (.iload 4, 2) := by decide +kernel
theorem dL_refuses_474 : decode cL_refuses 474 = .ok (.invokestatic 130, 3) := by decide +kernel
theorem dL_refuses_477 : decode cL_refuses 477 = .ok (.ldc 15, 2) := by decide +kernel
theorem dL_refuses_479 : decode cL_refuses 479 = .ok (.if_icmp .ne 125, 3) := by decide +kernel
theorem dL_refuses_482 : decode cL_refuses 482 = .ok (.aload_n 0, 1) := by decide +kernel
theorem dL_refuses_483 : decode cL_refuses 483 = .ok (.iload 4, 2) := by decide +kernel
theorem dL_refuses_485 : decode cL_refuses 485 = .ok (.invokestatic 132, 3) := by decide +kernel
theorem dL_refuses_488 : decode cL_refuses 488 = .ok (.ldc 15, 2) := by decide +kernel
theorem dL_refuses_490 : decode cL_refuses 490 = .ok (.if_icmp .ne 114, 3) := by decide +kernel
theorem dL_refuses_493 : decode cL_refuses 493 = .ok (.aload_n 0, 1) := by decide +kernel
theorem dL_refuses_494 : decode cL_refuses 494 = .ok (.iload 4, 2) := by decide +kernel
theorem dL_refuses_496 : decode cL_refuses 496 = .ok (.invokestatic 134, 3) := by decide +kernel
theorem dL_refuses_499 : decode cL_refuses 499 = .ok (.ldc 15, 2) := by decide +kernel
theorem dL_refuses_501 : decode cL_refuses 501 = .ok (.if_icmp .ne 103, 3) := by decide +kernel
theorem dL_refuses_504 : decode cL_refuses 504 = .ok (.aload_n 0, 1) := by decide +kernel
theorem dL_refuses_505 : decode cL_refuses 505 = .ok (.iload_n 2, 1) := by decide +kernel
theorem dL_refuses_506 : decode cL_refuses 506 = .ok (.invokestatic 137, 3) := by decide +kernel
theorem dL_refuses_509 : decode cL_refuses 509 = .ok (.ldc 15, 2) := by decide +kernel
theorem dL_refuses_511 : decode cL_refuses 511 = .ok (.if_icmp .ne 93, 3) := by decide +kernel
theorem dL_refuses_514 : decode cL_refuses 514 = .ok (.aload_n 0, 1) := by decide +kernel
theorem dL_refuses_515 : decode cL_refuses 515 = .ok (.iload_n 2, 1) := by decide +kernel
theorem dL_refuses_516 : decode cL_refuses 516 = .ok (.iconst 0, 1) := by decide +kernel
theorem dL_refuses_517 : decode cL_refuses 517 = .ok (.iconst 0, 1) := by decide +kernel
theorem dL_refuses_518 : decode cL_refuses 518 = .ok (.invokestatic 139, 3) := by decide +kernel
theorem dL_refuses_521 : decode cL_refuses 521 = .ok (.ldc 15, 2) := by decide +kernel
theorem dL_refuses_523 : decode cL_refuses 523 = .ok (.if_icmp .ne 81, 3) := by decide +kernel
theorem dL_refuses_526 : decode cL_refuses 526 = .ok (.aload_n 0, 1) := by decide +kernel
theorem dL_refuses_527 : decode cL_refuses 527 = .ok (.iload_n 1, 1) := by decide +kernel
theorem dL_refuses_528 : decode cL_refuses 528 = .ok (.bipush 8, 2) := by decide +kernel
theorem dL_refuses_530 : decode cL_refuses 530 = .ok (.irem, 1) := by decide +kernel
theorem dL_refuses_531 : decode cL_refuses 531 = .ok (.iconst 5, 1) := by decide +kernel
theorem dL_refuses_532 : decode cL_refuses 532 = .ok (.iconst 3, 1) := by decide +kernel
theorem dL_refuses_533 : decode cL_refuses 533 = .ok (.iload_n 1, 1) := by decide +kernel
theorem dL_refuses_534 : decode cL_refuses 534 = .ok (.iadd, 1) := by decide +kernel
theorem dL_refuses_535 : decode cL_refuses 535 = .ok (.invokestatic 139, 3) := by decide +kernel
theorem dL_refuses_538 : decode cL_refuses 538 = .ok (.ldc 15, 2) := by decide +kernel
theorem dL_refuses_540 : decode cL_refuses 540 = .ok (.if_icmp .ne 64, 3) := by decide +kernel
theorem dL_refuses_543 : decode cL_refuses 543 = .ok (.aload_n 0, 1) := by decide +kernel
theorem dL_refuses_544 : decode cL_refuses 544 = .ok (.iload_n 1, 1) := by decide +kernel
theorem dL_refuses_545 : decode cL_refuses 545 = .ok (.bipush 8, 2) := by decide +kernel
theorem dL_refuses_547 : decode cL_refuses 547 = .ok (.irem, 1) := by decide +kernel
theorem dL_refuses_548 : decode cL_refuses 548 = .ok (.iload_n 1, 1) := by decide +kernel
theorem dL_refuses_549 : decode cL_refuses 549 = .ok (.ineg, 1) := by decide +kernel
theorem dL_refuses_550 : decode cL_refuses 550 = .ok (.iconst 0, 1) := by decide +kernel
theorem dL_refuses_551 : decode cL_refuses 551 = .ok (.invokestatic 139, 3) := by decide +kernel
theorem dL_refuses_554 : decode cL_refuses 554 = .ok (.ldc 18, 2) := by decide +kernel
theorem dL_refuses_556 : decode cL_refuses 556 = .ok (.if_icmp .ne 48, 3) := by decide +kernel
theorem dL_refuses_559 : decode cL_refuses 559 = .ok (.aload_n 0, 1) := by decide +kernel
theorem dL_refuses_560 : decode cL_refuses 560 = .ok (.iload_n 3, 1) := by decide +kernel
theorem dL_refuses_561 : decode cL_refuses 561 = .ok (.invokestatic 141, 3) := by decide +kernel
theorem dL_refuses_564 : decode cL_refuses 564 = .ok (.ldc 15, 2) := by decide +kernel
theorem dL_refuses_566 : decode cL_refuses 566 = .ok (.if_icmp .ne 38, 3) := by decide +kernel
theorem dL_refuses_569 : decode cL_refuses 569 = .ok (.aload_n 0, 1) := by decide +kernel
theorem dL_refuses_570 : decode cL_refuses 570 = .ok (.iload_n 3, 1) := by decide +kernel
theorem dL_refuses_571 : decode cL_refuses 571 = .ok (.iconst 0, 1) := by decide +kernel
theorem dL_refuses_572 : decode cL_refuses 572 = .ok (.invokestatic 144, 3) := by decide +kernel
theorem dL_refuses_575 : decode cL_refuses 575 = .ok (.ldc 15, 2) := by decide +kernel
theorem dL_refuses_577 : decode cL_refuses 577 = .ok (.if_icmp .ne 27, 3) := by decide +kernel
theorem dL_refuses_580 : decode cL_refuses 580 = .ok (.aload_n 0, 1) := by decide +kernel
theorem dL_refuses_581 : decode cL_refuses 581 = .ok (.iload_n 3, 1) := by decide +kernel
theorem dL_refuses_582 : decode cL_refuses 582 = .ok (.invokestatic 146, 3) := by decide +kernel
theorem dL_refuses_585 : decode cL_refuses 585 = .ok (.ldc 15, 2) := by decide +kernel
theorem dL_refuses_587 : decode cL_refuses 587 = .ok (.if_icmp .ne 17, 3) := by decide +kernel
theorem dL_refuses_590 : decode cL_refuses 590 = .ok (.aload_n 0, 1) := by decide +kernel
theorem dL_refuses_591 : decode cL_refuses 591 = .ok (.iload_n 3, 1) := by decide +kernel
theorem dL_refuses_592 : decode cL_refuses 592 = .ok (.invokestatic 148, 3) := by decide +kernel
theorem dL_refuses_595 : decode cL_refuses 595 = .ok (.ldc 15, 2) := by decide +kernel
theorem dL_refuses_597 : decode cL_refuses 597 = .ok (.if_icmp .ne 7, 3) := by decide +kernel
theorem dL_refuses_600 : decode cL_refuses 600 = .ok (.iconst 1, 1) := by decide +kernel
theorem dL_refuses_601 : decode cL_refuses 601 = .ok (.goto 4, 3) := by decide +kernel
theorem dL_refuses_604 : decode cL_refuses 604 = .ok (.iconst 0, 1) := by decide +kernel
theorem dL_refuses_605 : decode cL_refuses 605 = .ok (.istore 5, 2) := by decide +kernel
theorem dL_refuses_607 : decode cL_refuses 607 = .ok (.iload 5, 2) := by decide +kernel
theorem dL_refuses_609 : decode cL_refuses 609 = .ok (.ifCond .eq 56, 3) := by decide +kernel
theorem dL_refuses_612 : decode cL_refuses 612 = .ok (.aload_n 0, 1) := by decide +kernel
theorem dL_refuses_613 : decode cL_refuses 613 = .ok (.invokevirtual 90, 3) := by decide +kernel
theorem dL_refuses_616 : decode cL_refuses 616 = .ok (.ifCond .le 49, 3) := by decide +kernel
theorem dL_refuses_619 : decode cL_refuses 619 = .ok (.iload_n 1, 1) := by decide +kernel
theorem dL_refuses_620 : decode cL_refuses 620 = .ok (.aload_n 0, 1) := by decide +kernel
theorem dL_refuses_621 : decode cL_refuses 621 = .ok (.invokevirtual 90, 3) := by decide +kernel
theorem dL_refuses_624 : decode cL_refuses 624 = .ok (.irem, 1) := by decide +kernel
theorem dL_refuses_625 : decode cL_refuses 625 = .ok (.istore 6, 2) := by decide +kernel
theorem dL_refuses_627 : decode cL_refuses 627 = .ok (.aload_n 0, 1) := by decide +kernel
theorem dL_refuses_628 : decode cL_refuses 628 = .ok (.iload 6, 2) := by decide +kernel
theorem dL_refuses_630 : decode cL_refuses 630 = .ok (.invokestatic 132, 3) := by decide +kernel
theorem dL_refuses_633 : decode cL_refuses 633 = .ok (.ifCond .gt 25, 3) := by decide +kernel
theorem dL_refuses_636 : decode cL_refuses 636 = .ok (.aload_n 0, 1) := by decide +kernel
theorem dL_refuses_637 : decode cL_refuses 637 = .ok (.iload 6, 2) := by decide +kernel
theorem dL_refuses_639 : decode cL_refuses 639 = .ok (.iload_n 1, 1) := by decide +kernel
theorem dL_refuses_640 : decode cL_refuses 640 = .ok (.iconst 2, 1) := by decide +kernel
theorem dL_refuses_641 : decode cL_refuses 641 = .ok (.irem, 1) := by decide +kernel
theorem dL_refuses_642 : decode cL_refuses 642 = .ok (.ifCond .ne 7, 3) := by decide +kernel
theorem dL_refuses_645 : decode cL_refuses 645 = .ok (.iconst 1, 1) := by decide +kernel
theorem dL_refuses_646 : decode cL_refuses 646 = .ok (.goto 4, 3) := by decide +kernel
theorem dL_refuses_649 : decode cL_refuses 649 = .ok (.iconst 0, 1) := by decide +kernel
theorem dL_refuses_650 : decode cL_refuses 650 = .ok (.invokestatic 117, 3) := by decide +kernel
theorem dL_refuses_653 : decode cL_refuses 653 = .ok (.ldc 21, 2) := by decide +kernel
theorem dL_refuses_655 : decode cL_refuses 655 = .ok (.if_icmp .ne 7, 3) := by decide +kernel
theorem dL_refuses_658 : decode cL_refuses 658 = .ok (.iconst 1, 1) := by decide +kernel
theorem dL_refuses_659 : decode cL_refuses 659 = .ok (.goto 4, 3) := by decide +kernel
theorem dL_refuses_662 : decode cL_refuses 662 = .ok (.iconst 0, 1) := by decide +kernel
theorem dL_refuses_663 : decode cL_refuses 663 = .ok (.istore 5, 2) := by decide +kernel
theorem dL_refuses_665 : decode cL_refuses 665 = .ok (.iload 5, 2) := by decide +kernel
theorem dL_refuses_667 : decode cL_refuses 667 = .ok (.ifCond .eq 157, 3) := by decide +kernel
theorem dL_refuses_670 : decode cL_refuses 670 = .ok (.aload_n 0, 1) := by decide +kernel
theorem dL_refuses_671 : decode cL_refuses 671 = .ok (.invokevirtual 86, 3) := by decide +kernel
theorem dL_refuses_674 : decode cL_refuses 674 = .ok (.ifCond .le 150, 3) := by decide +kernel
theorem dL_refuses_677 : decode cL_refuses 677 = .ok (.iload_n 1, 1) := by decide +kernel
theorem dL_refuses_678 : decode cL_refuses 678 = .ok (.aload_n 0, 1) := by decide +kernel
theorem dL_refuses_679 : decode cL_refuses 679 = .ok (.invokevirtual 86, 3) := by decide +kernel
theorem dL_refuses_682 : decode cL_refuses 682 = .ok (.irem, 1) := by decide +kernel
theorem dL_refuses_683 : decode cL_refuses 683 = .ok (.istore 6, 2) := by decide +kernel
theorem dL_refuses_685 : decode cL_refuses 685 = .ok (.aload_n 0, 1) := by decide +kernel
theorem dL_refuses_686 : decode cL_refuses 686 = .ok (.iload 6, 2) := by decide +kernel
theorem dL_refuses_688 : decode cL_refuses 688 = .ok (.invokestatic 148, 3) := by decide +kernel
theorem dL_refuses_691 : decode cL_refuses 691 = .ok (.iconst 1, 1) := by decide +kernel
theorem dL_refuses_692 : decode cL_refuses 692 = .ok (.if_icmp .ne 7, 3) := by decide +kernel
theorem dL_refuses_695 : decode cL_refuses 695 = .ok (.iconst 1, 1) := by decide +kernel
theorem dL_refuses_696 : decode cL_refuses 696 = .ok (.goto 4, 3) := by decide +kernel
theorem dL_refuses_699 : decode cL_refuses 699 = .ok (.iconst 0, 1) := by decide +kernel
theorem dL_refuses_700 : decode cL_refuses 700 = .ok (.istore 7, 2) := by decide +kernel
theorem dL_refuses_702 : decode cL_refuses 702 = .ok (.aload_n 0, 1) := by decide +kernel
theorem dL_refuses_703 : decode cL_refuses 703 = .ok (.iload 6, 2) := by decide +kernel
theorem dL_refuses_705 : decode cL_refuses 705 = .ok (.iload_n 2, 1) := by decide +kernel
theorem dL_refuses_706 : decode cL_refuses 706 = .ok (.invokestatic 103, 3) := by decide +kernel
theorem dL_refuses_709 : decode cL_refuses 709 = .ok (.ldc 15, 2) := by decide +kernel
theorem dL_refuses_711 : decode cL_refuses 711 = .ok (.if_icmp .ne 110, 3) := by decide +kernel
theorem dL_refuses_714 : decode cL_refuses 714 = .ok (.aload_n 0, 1) := by decide +kernel
theorem dL_refuses_715 : decode cL_refuses 715 = .ok (.iload 6, 2) := by decide +kernel
theorem dL_refuses_717 : decode cL_refuses 717 = .ok (.iload 4, 2) := by decide +kernel
theorem dL_refuses_719 : decode cL_refuses 719 = .ok (.invokestatic 144, 3) := by decide +kernel
theorem dL_refuses_722 : decode cL_refuses 722 = .ok (.ldc 15, 2) := by decide +kernel
theorem dL_refuses_724 : decode cL_refuses 724 = .ok (.if_icmp .ne 97, 3) := by decide +kernel
theorem dL_refuses_727 : decode cL_refuses 727 = .ok (.aload_n 0, 1) := by decide +kernel
theorem dL_refuses_728 : decode cL_refuses 728 = .ok (.iload 6, 2) := by decide +kernel
theorem dL_refuses_730 : decode cL_refuses 730 = .ok (.invokestatic 141, 3) := by decide +kernel
theorem dL_refuses_733 : decode cL_refuses 733 = .ok (.ifCond .ge 8, 3) := by decide +kernel
theorem dL_refuses_736 : decode cL_refuses 736 = .ok (.iload 7, 2) := by decide +kernel
theorem dL_refuses_738 : decode cL_refuses 738 = .ok (.ifCond .eq 18, 3) := by decide +kernel
theorem dL_refuses_741 : decode cL_refuses 741 = .ok (.aload_n 0, 1) := by decide +kernel
theorem dL_refuses_742 : decode cL_refuses 742 = .ok (.iload 6, 2) := by decide +kernel
theorem dL_refuses_744 : decode cL_refuses 744 = .ok (.iload_n 1, 1) := by decide +kernel
theorem dL_refuses_745 : decode cL_refuses 745 = .ok (.bipush 8, 2) := by decide +kernel
theorem dL_refuses_747 : decode cL_refuses 747 = .ok (.irem, 1) := by decide +kernel
theorem dL_refuses_748 : decode cL_refuses 748 = .ok (.invokestatic 103, 3) := by decide +kernel
theorem dL_refuses_751 : decode cL_refuses 751 = .ok (.ldc 21, 2) := by decide +kernel
theorem dL_refuses_753 : decode cL_refuses 753 = .ok (.if_icmp .ne 68, 3) := by decide +kernel
theorem dL_refuses_756 : decode cL_refuses 756 = .ok (.aload_n 0, 1) := by decide +kernel
theorem dL_refuses_757 : decode cL_refuses 757 = .ok (.iload 6, 2) := by decide +kernel
theorem dL_refuses_759 : decode cL_refuses 759 = .ok (.invokestatic 141, 3) := by decide +kernel
theorem dL_refuses_762 : decode cL_refuses 762 = .ok (.ifCond .lt 8, 3) := by decide +kernel
theorem dL_refuses_765 : decode cL_refuses 765 = .ok (.iload 7, 2) := by decide +kernel
theorem dL_refuses_767 : decode cL_refuses 767 = .ok (.ifCond .eq 14, 3) := by decide +kernel
theorem dL_refuses_770 : decode cL_refuses 770 = .ok (.aload_n 0, 1) := by decide +kernel
theorem dL_refuses_771 : decode cL_refuses 771 = .ok (.iload 6, 2) := by decide +kernel
theorem dL_refuses_773 : decode cL_refuses 773 = .ok (.invokestatic 107, 3) := by decide +kernel
theorem dL_refuses_776 : decode cL_refuses 776 = .ok (.ldc 21, 2) := by decide +kernel
theorem dL_refuses_778 : decode cL_refuses 778 = .ok (.if_icmp .ne 43, 3) := by decide +kernel
theorem dL_refuses_781 : decode cL_refuses 781 = .ok (.aload_n 0, 1) := by decide +kernel
theorem dL_refuses_782 : decode cL_refuses 782 = .ok (.iload 6, 2) := by decide +kernel
theorem dL_refuses_784 : decode cL_refuses 784 = .ok (.invokestatic 146, 3) := by decide +kernel
theorem dL_refuses_787 : decode cL_refuses 787 = .ok (.ifCond .gt 14, 3) := by decide +kernel
theorem dL_refuses_790 : decode cL_refuses 790 = .ok (.aload_n 0, 1) := by decide +kernel
theorem dL_refuses_791 : decode cL_refuses 791 = .ok (.iload 6, 2) := by decide +kernel
theorem dL_refuses_793 : decode cL_refuses 793 = .ok (.invokestatic 111, 3) := by decide +kernel
theorem dL_refuses_796 : decode cL_refuses 796 = .ok (.ldc 21, 2) := by decide +kernel
theorem dL_refuses_798 : decode cL_refuses 798 = .ok (.if_icmp .ne 23, 3) := by decide +kernel
theorem dL_refuses_801 : decode cL_refuses 801 = .ok (.iload 7, 2) := by decide +kernel
theorem dL_refuses_803 : decode cL_refuses 803 = .ok (.ifCond .eq 14, 3) := by decide +kernel
theorem dL_refuses_806 : decode cL_refuses 806 = .ok (.aload_n 0, 1) := by decide +kernel
theorem dL_refuses_807 : decode cL_refuses 807 = .ok (.iload 6, 2) := by decide +kernel
theorem dL_refuses_809 : decode cL_refuses 809 = .ok (.invokestatic 114, 3) := by decide +kernel
theorem dL_refuses_812 : decode cL_refuses 812 = .ok (.ldc 21, 2) := by decide +kernel
theorem dL_refuses_814 : decode cL_refuses 814 = .ok (.if_icmp .ne 7, 3) := by decide +kernel
theorem dL_refuses_817 : decode cL_refuses 817 = .ok (.iconst 1, 1) := by decide +kernel
theorem dL_refuses_818 : decode cL_refuses 818 = .ok (.goto 4, 3) := by decide +kernel
theorem dL_refuses_821 : decode cL_refuses 821 = .ok (.iconst 0, 1) := by decide +kernel
theorem dL_refuses_822 : decode cL_refuses 822 = .ok (.istore 5, 2) := by decide +kernel
theorem dL_refuses_824 : decode cL_refuses 824 = .ok (.iload 5, 2) := by decide +kernel
theorem dL_refuses_826 : decode cL_refuses 826 = .ok (.ireturn, 1) := by decide +kernel
set_option maxHeartbeats 8000000 in
set_option maxRecDepth 100000 in
theorem rf_a {p : Program} {l : Launch} {e : Env} {s : State} {m : MethodId} {args : Array Value} {below : List Frame} {meth : Method} {c : Code} {Q : State → Prop} {D : va_G} {A : Nat → Prop} {cI cZ : ClassId} {a : Nat → Nat} {B R E : Nat → Nat → Int32} {td : Int32} {H : Heap} {locs : List Loc} {ls : Array Slot} (n : Nat) (q : Nat) (x : Nat) (F : CallFix p m c cL_refuses 8 s args wsL_refuses RL) (hK : va_K D vwCl (tyl cI cZ) s) (hA : ∀ q : Nat, s.heap.size ≤ q → A q) (hX : ExB s) (hZ : ExZ A s s.heap) (hfl : l.stackTraces = false) (hB : B 11 0 = nI n) (hn : n ≤ 40) (hR : R 8 0 = nI q) (hq : q ≤ 30) (hx9 : x < 9973) (I5 : ∀ j, j < q → R 5 j = 0 ∨ R 5 j = 1) (I0 : ∀ j, j < q → R 0 j = -1 ∨ ¬ R 0 j < 0) (I3 : ∀ j, j < q → ¬ R 3 j < 0) (I8 : ∀ i, i < n → ¬ B 8 i < 0) (hP : va_P D vwCl (wCA a cI cZ B R E (td)) H) (hD : va_D A (wCA a cI cZ B R E (td))) (hS : va_S A s.heap H locs) (hl : lv_has ls 8 [(0, .ref (a 0)), (1, .int (nI (x)))])
    (k23 : ∀ (none : Int32) (e1 : none < 0 ∨ ¬ none < 8) (e2 : ¬ none = -1) (H : Heap) (locs : List Loc) (ls : Array Slot), va_P D vwCl (wCA a cI cZ B R E (td)) H → va_D A (wCA a cI cZ B R E (td)) → va_S A s.heap H locs → lv_has ls 8 [(0, .ref (a 0)), (1, .int (nI (x)))] → W p l e ({ frames := 9, cells := 44, slots := 264, locals := 184 } : Room) s m args below meth c H locs 0 0 Q (F0 m 23 ls [.int (none)])) :
    W p l e ({ frames := 9, cells := 44, slots := 264, locals := 184 } : Room) s m args below meth c H locs 0 0 Q (F0 m 0 ls []) := by
  obtain ⟨hx, hb, hml, hown, hts⟩ := id F
  refine lv_iload_n hx hb dL_refuses_0 rfl (lv_at hl 1 rfl) ?_
  refine lv_iconst (v := nI (2)) hx hb dL_refuses_1 (by decide) ?_
  refine lv_rem (x := x) (d := 2) hx hb rfl rfl dL_refuses_2 (by omega) (by omega) (by omega) ?_
  refine lv_if_ne (tgt := 16) hx hb dL_refuses_3 (by decide) (fun c3 => ?_) (fun c3 => ?_)
  · -- 3 taken
    rw [show (0 : Int32) = nI 0 from rfl] at c3
    rw [nI_eq (by omega) (by omega)] at c3
    refine lv_bipush (v := nI (8)) hx hb dL_refuses_16 (by decide) ?_
    refine lv_iload_n hx hb dL_refuses_18 rfl (lv_at hl 1 rfl) ?_
    refine lv_bipush (v := nI (50)) hx hb dL_refuses_19 (by decide) ?_
    refine lv_rem (x := x) (d := 50) hx hb rfl rfl dL_refuses_21 (by omega) (by omega) (by omega) ?_
    refine lv_sum (x := 8) (d := x % 50) hx hb rfl rfl dL_refuses_22 ?_
    exact k23 (nI ((8) + (x % 50))) (Or.inr (p8 (by omega) (by omega)).1) (p8 (by omega) (by omega)).2 _ _ _ hP hD hS (lv_sub hl [0, 1] rfl)
  · -- 3 on
    rw [show (0 : Int32) = nI 0 from rfl] at c3
    rw [nI_eq (by omega) (by omega)] at c3
    refine lv_bipush (v := (-2)) hx hb dL_refuses_6 (by decide) ?_
    refine lv_iload_n hx hb dL_refuses_8 rfl (lv_at hl 1 rfl) ?_
    refine lv_bipush (v := nI (50)) hx hb dL_refuses_9 (by decide) ?_
    refine lv_rem (x := x) (d := 50) hx hb rfl rfl dL_refuses_11 (by omega) (by omega) (by omega) ?_
    refine lv_isub hx hb dL_refuses_12 ?_
    refine lv_goto (tgt := 23) hx hb dL_refuses_13 (by decide) ?_
    exact k23 (((-2)) - (nI (x % 50))) (Or.inl (ng2 _ (by omega)).1) (ng2 _ (by omega)).2 _ _ _ hP hD hS (lv_sub hl [0, 1] rfl)
set_option maxHeartbeats 8000000 in
set_option maxRecDepth 100000 in
theorem rf_b {p : Program} {l : Launch} {e : Env} {s : State} {m : MethodId} {args : Array Value} {below : List Frame} {meth : Method} {c : Code} {Q : State → Prop} {D : va_G} {A : Nat → Prop} {cI cZ : ClassId} {a : Nat → Nat} {B R E : Nat → Nat → Int32} {td : Int32} {H : Heap} {locs : List Loc} {ls : Array Slot} (n : Nat) (q : Nat) (x : Nat) (none : Int32) (F : CallFix p m c cL_refuses 8 s args wsL_refuses RL) (hK : va_K D vwCl (tyl cI cZ) s) (hA : ∀ q : Nat, s.heap.size ≤ q → A q) (hX : ExB s) (hZ : ExZ A s s.heap) (hfl : l.stackTraces = false) (hB : B 11 0 = nI n) (hn : n ≤ 40) (hR : R 8 0 = nI q) (hq : q ≤ 30) (hx9 : x < 9973) (I5 : ∀ j, j < q → R 5 j = 0 ∨ R 5 j = 1) (I0 : ∀ j, j < q → R 0 j = -1 ∨ ¬ R 0 j < 0) (I3 : ∀ j, j < q → ¬ R 3 j < 0) (I8 : ∀ i, i < n → ¬ B 8 i < 0) (hP : va_P D vwCl (wCA a cI cZ B R E (td)) H) (hD : va_D A (wCA a cI cZ B R E (td))) (hS : va_S A s.heap H locs) (hl : lv_has ls 8 [(0, .ref (a 0)), (1, .int (nI (x)))])
    (k48 : ∀ (late : Int32) (e3 : late < 0 ∨ ¬ late < R 8 0) (H : Heap) (locs : List Loc) (ls : Array Slot), va_P D vwCl (wCA a cI cZ B R E (td)) H → va_D A (wCA a cI cZ B R E (td)) → va_S A s.heap H locs → lv_has ls 8 [(0, .ref (a 0)), (1, .int (nI (x))), (2, .int (none))] → W p l e ({ frames := 9, cells := 44, slots := 264, locals := 184 } : Room) s m args below meth c H locs 0 0 Q (F0 m 48 ls [.int (late)])) :
    W p l e ({ frames := 9, cells := 44, slots := 264, locals := 184 } : Room) s m args below meth c H locs 0 0 Q (F0 m 23 ls [.int (none)]) := by
  obtain ⟨hx, hb, hml, hown, hts⟩ := id F
  have cv_receipts : CallW ({ frames := 9, cells := 44, slots := 264, locals := 184 } : Room) s args RL RX3 86 yX3_receipts cX3_receipts 1 (some .int) wsX3_receipts ({ frames := 0, cells := 0, slots := 0, locals := 0 } : Room) 0 0 0 := cwV 0 hts gL_refuses_X3_receipts rfl rfl rfl (by decide +kernel) ⟨Nat.le_of_ble_eq_true rfl, Nat.le_of_ble_eq_true rfl⟩
  refine lv_istore_n (lv' := [(2, .int (none)), (0, .ref (a 0)), (1, .int (nI (x)))]) hx hb dL_refuses_23 rfl hl (by decide) rfl (fun ls hl => ?_)
  refine lv_iload_n hx hb dL_refuses_24 rfl (lv_at hl 2 rfl) ?_
  refine lv_iconst (v := nI (2)) hx hb dL_refuses_25 (by decide) ?_
  refine lv_rem (x := x) (d := 2) hx hb rfl rfl dL_refuses_26 (by omega) (by omega) (by omega) ?_
  refine lv_if_ne (tgt := 39) hx hb dL_refuses_27 (by decide) (fun c27 => ?_) (fun c27 => ?_)
  · -- 27 taken
    rw [show (0 : Int32) = nI 0 from rfl] at c27
    rw [nI_eq (by omega) (by omega)] at c27
    refine lv_aload_n hx hb dL_refuses_39 rfl (lv_at hl 1 rfl) ?_
    refine zkV (v := R 8 0) kCA (ci := 3) (q0 := 0) F (zwCA hP hD hS hA) hK (c_X3_receipts l D cI cZ a H.size (B) (R) (E) (td) ) cv_receipts rfl rfl (by decide) rfl rfl hl.1 rfl (Nat.le_of_ble_eq_true rfl) dL_refuses_40 ⟨Nat.le_of_ble_eq_true rfl, Nat.le_of_ble_eq_true rfl⟩ (fun H locs hP hD hS => ?_)
    rw [hR]
    refine lv_iload_n hx hb dL_refuses_43 rfl (lv_at hl 2 rfl) ?_
    refine lv_bipush (v := nI (50)) hx hb dL_refuses_44 (by decide) ?_
    refine lv_rem (x := x) (d := 50) hx hb rfl rfl dL_refuses_46 (by omega) (by omega) (by omega) ?_
    refine lv_sum (x := q) (d := x % 50) hx hb rfl rfl dL_refuses_47 ?_
    exact k48 (nI ((q) + (x % 50))) (Or.inr (by rw [hR]; exact nI_nlt (by omega) (by omega))) _ _ _ hP hD hS (lv_sub hl [1, 2, 0] rfl)
  · -- 27 on
    rw [show (0 : Int32) = nI 0 from rfl] at c27
    rw [nI_eq (by omega) (by omega)] at c27
    refine lv_iconst (v := (-1)) hx hb dL_refuses_30 (by decide) ?_
    refine lv_iload_n hx hb dL_refuses_31 rfl (lv_at hl 2 rfl) ?_
    refine lv_bipush (v := nI (50)) hx hb dL_refuses_32 (by decide) ?_
    refine lv_rem (x := x) (d := 50) hx hb rfl rfl dL_refuses_34 (by omega) (by omega) (by omega) ?_
    refine lv_isub hx hb dL_refuses_35 ?_
    refine lv_goto (tgt := 48) hx hb dL_refuses_36 (by decide) ?_
    exact k48 (((-1)) - (nI (x % 50))) (Or.inl (ng1 _ (by omega))) _ _ _ hP hD hS (lv_sub hl [1, 2, 0] rfl)
set_option maxHeartbeats 8000000 in
set_option maxRecDepth 100000 in
theorem rf_c {p : Program} {l : Launch} {e : Env} {s : State} {m : MethodId} {args : Array Value} {below : List Frame} {meth : Method} {c : Code} {Q : State → Prop} {D : va_G} {A : Nat → Prop} {cI cZ : ClassId} {a : Nat → Nat} {B R E : Nat → Nat → Int32} {td : Int32} {H : Heap} {locs : List Loc} {ls : Array Slot} (n : Nat) (q : Nat) (x : Nat) (none : Int32) (late : Int32) (F : CallFix p m c cL_refuses 8 s args wsL_refuses RL) (hK : va_K D vwCl (tyl cI cZ) s) (hA : ∀ q : Nat, s.heap.size ≤ q → A q) (hX : ExB s) (hZ : ExZ A s s.heap) (hfl : l.stackTraces = false) (hB : B 11 0 = nI n) (hn : n ≤ 40) (hR : R 8 0 = nI q) (hq : q ≤ 30) (hx9 : x < 9973) (I5 : ∀ j, j < q → R 5 j = 0 ∨ R 5 j = 1) (I0 : ∀ j, j < q → R 0 j = -1 ∨ ¬ R 0 j < 0) (I3 : ∀ j, j < q → ¬ R 3 j < 0) (I8 : ∀ i, i < n → ¬ B 8 i < 0) (hP : va_P D vwCl (wCA a cI cZ B R E (td)) H) (hD : va_D A (wCA a cI cZ B R E (td))) (hS : va_S A s.heap H locs) (hl : lv_has ls 8 [(0, .ref (a 0)), (1, .int (nI (x))), (2, .int (none))])
    (k73 : ∀ (high : Int32) (e4 : high < 0 ∨ ¬ high < B 11 0) (H : Heap) (locs : List Loc) (ls : Array Slot), va_P D vwCl (wCA a cI cZ B R E (td)) H → va_D A (wCA a cI cZ B R E (td)) → va_S A s.heap H locs → lv_has ls 8 [(0, .ref (a 0)), (1, .int (nI (x))), (3, .int (late)), (2, .int (none))] → W p l e ({ frames := 9, cells := 44, slots := 264, locals := 184 } : Room) s m args below meth c H locs 0 0 Q (F0 m 73 ls [.int (high)])) :
    W p l e ({ frames := 9, cells := 44, slots := 264, locals := 184 } : Room) s m args below meth c H locs 0 0 Q (F0 m 48 ls [.int (late)]) := by
  obtain ⟨hx, hb, hml, hown, hts⟩ := id F
  have cv_bills : CallW ({ frames := 9, cells := 44, slots := 264, locals := 184 } : Room) s args RL RX3 90 yX3_bills cX3_bills 1 (some .int) wsX3_bills ({ frames := 0, cells := 0, slots := 0, locals := 0 } : Room) 0 0 0 := cwV 0 hts gL_refuses_X3_bills rfl rfl rfl (by decide +kernel) ⟨Nat.le_of_ble_eq_true rfl, Nat.le_of_ble_eq_true rfl⟩
  refine lv_istore_n (lv' := [(3, .int (late)), (0, .ref (a 0)), (1, .int (nI (x))), (2, .int (none))]) hx hb dL_refuses_48 rfl hl (by decide) rfl (fun ls hl => ?_)
  refine lv_iload_n hx hb dL_refuses_49 rfl (lv_at hl 2 rfl) ?_
  refine lv_iconst (v := nI (2)) hx hb dL_refuses_50 (by decide) ?_
  refine lv_rem (x := x) (d := 2) hx hb rfl rfl dL_refuses_51 (by omega) (by omega) (by omega) ?_
  refine lv_if_ne (tgt := 64) hx hb dL_refuses_52 (by decide) (fun c52 => ?_) (fun c52 => ?_)
  · -- 52 taken
    rw [show (0 : Int32) = nI 0 from rfl] at c52
    rw [nI_eq (by omega) (by omega)] at c52
    refine lv_aload_n hx hb dL_refuses_64 rfl (lv_at hl 1 rfl) ?_
    refine zkV (v := B 11 0) kCA (ci := 3) (q0 := 0) F (zwCA hP hD hS hA) hK (c_X3_bills l D cI cZ a H.size (B) (R) (E) (td) ) cv_bills rfl rfl (by decide) rfl rfl hl.1 rfl (Nat.le_of_ble_eq_true rfl) dL_refuses_65 ⟨Nat.le_of_ble_eq_true rfl, Nat.le_of_ble_eq_true rfl⟩ (fun H locs hP hD hS => ?_)
    rw [hB]
    refine lv_iload_n hx hb dL_refuses_68 rfl (lv_at hl 2 rfl) ?_
    refine lv_bipush (v := nI (50)) hx hb dL_refuses_69 (by decide) ?_
    refine lv_rem (x := x) (d := 50) hx hb rfl rfl dL_refuses_71 (by omega) (by omega) (by omega) ?_
    refine lv_sum (x := n) (d := x % 50) hx hb rfl rfl dL_refuses_72 ?_
    exact k73 (nI ((n) + (x % 50))) (Or.inr (by rw [hB]; exact nI_nlt (by omega) (by omega))) _ _ _ hP hD hS (lv_sub hl [1, 2, 0, 3] rfl)
  · -- 52 on
    rw [show (0 : Int32) = nI 0 from rfl] at c52
    rw [nI_eq (by omega) (by omega)] at c52
    refine lv_iconst (v := (-1)) hx hb dL_refuses_55 (by decide) ?_
    refine lv_iload_n hx hb dL_refuses_56 rfl (lv_at hl 2 rfl) ?_
    refine lv_bipush (v := nI (50)) hx hb dL_refuses_57 (by decide) ?_
    refine lv_rem (x := x) (d := 50) hx hb rfl rfl dL_refuses_59 (by omega) (by omega) (by omega) ?_
    refine lv_isub hx hb dL_refuses_60 ?_
    refine lv_goto (tgt := 73) hx hb dL_refuses_61 (by decide) ?_
    exact k73 (((-1)) - (nI (x % 50))) (Or.inl (ng1 _ (by omega))) _ _ _ hP hD hS (lv_sub hl [1, 2, 0, 3] rfl)
set_option maxHeartbeats 8000000 in
set_option maxRecDepth 100000 in
theorem rf_d {p : Program} {l : Launch} {e : Env} {s : State} {m : MethodId} {args : Array Value} {below : List Frame} {meth : Method} {c : Code} {Q : State → Prop} {D : va_G} {A : Nat → Prop} {cI cZ : ClassId} {a : Nat → Nat} {B R E : Nat → Nat → Int32} {td : Int32} {H : Heap} {locs : List Loc} {ls : Array Slot} (n : Nat) (q : Nat) (x : Nat) (none : Int32) (late : Int32) (high : Int32) (F : CallFix p m c cL_refuses 8 s args wsL_refuses RL) (hK : va_K D vwCl (tyl cI cZ) s) (hA : ∀ q : Nat, s.heap.size ≤ q → A q) (hX : ExB s) (hZ : ExZ A s s.heap) (hfl : l.stackTraces = false) (hB : B 11 0 = nI n) (hn : n ≤ 40) (hR : R 8 0 = nI q) (hq : q ≤ 30) (hx9 : x < 9973) (I5 : ∀ j, j < q → R 5 j = 0 ∨ R 5 j = 1) (I0 : ∀ j, j < q → R 0 j = -1 ∨ ¬ R 0 j < 0) (I3 : ∀ j, j < q → ¬ R 3 j < 0) (I8 : ∀ i, i < n → ¬ B 8 i < 0) (e1 : none < 0 ∨ ¬ none < 8) (e2 : ¬ none = -1) (e3 : late < 0 ∨ ¬ late < R 8 0) (e4 : high < 0 ∨ ¬ high < B 11 0) (hP : va_P D vwCl (wCA a cI cZ B R E (td)) H) (hD : va_D A (wCA a cI cZ B R E (td))) (hS : va_S A s.heap H locs) (hl : lv_has ls 8 [(0, .ref (a 0)), (1, .int (nI (x))), (3, .int (late)), (2, .int (none))])
    (k178 : ∀ (H : Heap) (locs : List Loc) (ls : Array Slot), va_P D vwCl (wCA a cI cZ B R E (td)) H → va_D A (wCA a cI cZ B R E (td)) → va_S A s.heap H locs → lv_has ls 8 [(0, .ref (a 0)), (1, .int (nI (x))), (4, .int (high)), (3, .int (late)), (2, .int (none))] → W p l e ({ frames := 9, cells := 44, slots := 264, locals := 184 } : Room) s m args below meth c H locs 6 36 Q (F0 m 178 ls [])) :
    W p l e ({ frames := 9, cells := 44, slots := 264, locals := 184 } : Room) s m args below meth c H locs 0 0 Q (F0 m 73 ls [.int (high)]) := by
  obtain ⟨hx, hb, hml, hown, hts⟩ := id F
  have cw_bills_k : vx_CSW ({ frames := 9, cells := 44, slots := 264, locals := 184 } : Room) s args RL 93 yL_bills cL_bills 7 (some .int) [(0, 11, 12, 13), (0, 11, 17, 16), (0, 11, 22, 19)] wsL_bills ({ frames := 8, cells := 1, slots := 6, locals := 137 } : Room) 1 6 6 := vx_cwSW 6 hts gL_refuses_L_bills rfl rfl rfl (by decide +kernel) ⟨Nat.le_of_ble_eq_true rfl, Nat.le_of_ble_eq_true rfl⟩
  refine lv_istore (lv' := [(4, .int (high)), (0, .ref (a 0)), (1, .int (nI (x))), (3, .int (late)), (2, .int (none))]) hx hb dL_refuses_73 hl (by decide) rfl (fun ls hl => ?_)
  refine lv_aload_n hx hb dL_refuses_75 rfl (lv_at hl 1 rfl) ?_
  refine lv_iload_n hx hb dL_refuses_76 rfl (lv_at hl 4 rfl) ?_
  refine lv_iconst (v := nI (0)) hx hb dL_refuses_77 (by decide) ?_
  refine lv_iconst (v := nI (0)) hx hb dL_refuses_78 (by decide) ?_
  refine lv_iconst (v := nI (0)) hx hb dL_refuses_79 (by decide) ?_
  refine lv_iconst (v := nI (0)) hx hb dL_refuses_80 (by decide) ?_
  refine zkW (v := (-2000000001)) kCA F (zwCA hP hD hS hA) hK hX hZ (c_L_bills_k l hfl D cI cZ a H.size (B) (R) (E) (td) (n) (none) (nI (0)) (nI (0)) (nI (0)) (nI (0)) (1) ((-2000000001)) (by first | assumption | omega) (by first | assumption | omega) (bk1 e1) (by decide) rfl) cw_bills_k (by decide) rfl rfl hl.1 rfl (Nat.le_of_ble_eq_true rfl) dL_refuses_81 ⟨Nat.le_of_ble_eq_true rfl, Nat.le_of_ble_eq_true rfl⟩ (fun H locs hP hD hS => ?_)
  refine W.widen (k := 1) (n := 6) (Nat.le_of_ble_eq_true rfl) (Nat.le_of_ble_eq_true rfl) ?_
  refine lv_ldc (v := (-2000000001)) hx hb hown (hts (.constant RL 15 (-2000000001)) kL_refuses_15) dL_refuses_84 ?_
  refine lv_icmp_ne (tgt := 354) hx hb dL_refuses_86 (by decide) (fun c86 => ?_) (fun c86 => ?_)
  · -- 86 taken
    exact absurd rfl c86
  · -- 86 on
    refine lv_aload_n hx hb dL_refuses_89 rfl (lv_at hl 1 rfl) ?_
    refine lv_iconst (v := (-1)) hx hb dL_refuses_90 (by decide) ?_
    refine lv_iconst (v := nI (5)) hx hb dL_refuses_91 (by decide) ?_
    refine lv_iconst (v := nI (5)) hx hb dL_refuses_92 (by decide) ?_
    refine lv_iconst (v := nI (5)) hx hb dL_refuses_93 (by decide) ?_
    refine lv_iconst (v := nI (5)) hx hb dL_refuses_94 (by decide) ?_
    refine zkW (v := (-2000000001)) kCA F (zwCA hP hD hS hA) hK hX hZ (c_L_bills_k l hfl D cI cZ a H.size (B) (R) (E) (td) (n) ((-1)) (nI (5)) (nI (5)) (nI (5)) (nI (5)) (1) ((-2000000001)) (by first | assumption | omega) (by first | assumption | omega) (bk1 (Or.inl (by decide))) (by decide) rfl) cw_bills_k (by decide) rfl rfl hl.1 rfl (Nat.le_of_ble_eq_true rfl) dL_refuses_95 ⟨Nat.le_of_ble_eq_true rfl, Nat.le_of_ble_eq_true rfl⟩ (fun H locs hP hD hS => ?_)
    refine W.widen (k := 2) (n := 12) (Nat.le_of_ble_eq_true rfl) (Nat.le_of_ble_eq_true rfl) ?_
    refine lv_ldc (v := (-2000000001)) hx hb hown (hts (.constant RL 15 (-2000000001)) kL_refuses_15) dL_refuses_98 ?_
    refine lv_icmp_ne (tgt := 354) hx hb dL_refuses_100 (by decide) (fun c100 => ?_) (fun c100 => ?_)
    · -- 100 taken
      exact absurd rfl c100
    · -- 100 on
      refine lv_aload_n hx hb dL_refuses_103 rfl (lv_at hl 1 rfl) ?_
      refine lv_iload_n hx hb dL_refuses_104 rfl (lv_at hl 2 rfl) ?_
      refine lv_bipush (v := nI (8)) hx hb dL_refuses_105 (by decide) ?_
      refine lv_rem (x := x) (d := 8) hx hb rfl rfl dL_refuses_107 (by omega) (by omega) (by omega) ?_
      refine lv_iconst (v := nI (0)) hx hb dL_refuses_108 (by decide) ?_
      refine lv_iconst (v := nI (5)) hx hb dL_refuses_109 (by decide) ?_
      refine lv_iconst (v := nI (5)) hx hb dL_refuses_110 (by decide) ?_
      refine lv_iconst (v := nI (5)) hx hb dL_refuses_111 (by decide) ?_
      refine zkW (v := (-2000000002)) kCA F (zwCA hP hD hS hA) hK hX hZ (c_L_bills_k l hfl D cI cZ a H.size (B) (R) (E) (td) (n) (nI (x % 8)) (nI (0)) (nI (5)) (nI (5)) (nI (5)) (2) ((-2000000002)) (by first | assumption | omega) (by first | assumption | omega) (bk2 (m8 x).1 (m8 x).2 (Or.inl (Or.inl (by decide)))) (by decide) rfl) cw_bills_k (by decide) rfl rfl hl.1 rfl (Nat.le_of_ble_eq_true rfl) dL_refuses_112 ⟨Nat.le_of_ble_eq_true rfl, Nat.le_of_ble_eq_true rfl⟩ (fun H locs hP hD hS => ?_)
      refine W.widen (k := 3) (n := 18) (Nat.le_of_ble_eq_true rfl) (Nat.le_of_ble_eq_true rfl) ?_
      refine lv_ldc (v := (-2000000002)) hx hb hown (hts (.constant RL 18 (-2000000002)) kL_refuses_18) dL_refuses_115 ?_
      refine lv_icmp_ne (tgt := 354) hx hb dL_refuses_117 (by decide) (fun c117 => ?_) (fun c117 => ?_)
      · -- 117 taken
        exact absurd rfl c117
      · -- 117 on
        refine lv_aload_n hx hb dL_refuses_120 rfl (lv_at hl 1 rfl) ?_
        refine lv_iload_n hx hb dL_refuses_121 rfl (lv_at hl 2 rfl) ?_
        refine lv_bipush (v := nI (8)) hx hb dL_refuses_122 (by decide) ?_
        refine lv_rem (x := x) (d := 8) hx hb rfl rfl dL_refuses_124 (by omega) (by omega) (by omega) ?_
        refine lv_ldc (v := nI (1000001)) hx hb hown (hts (.constant RL 98 (1000001)) kL_refuses_98) dL_refuses_125 ?_
        refine lv_iload_n hx hb dL_refuses_127 rfl (lv_at hl 2 rfl) ?_
        refine lv_sum (x := 1000001) (d := x) hx hb rfl rfl dL_refuses_128 ?_
        refine lv_iconst (v := nI (5)) hx hb dL_refuses_129 (by decide) ?_
        refine lv_iconst (v := nI (5)) hx hb dL_refuses_130 (by decide) ?_
        refine lv_iconst (v := nI (5)) hx hb dL_refuses_131 (by decide) ?_
        refine zkW (v := (-2000000002)) kCA F (zwCA hP hD hS hA) hK hX hZ (c_L_bills_k l hfl D cI cZ a H.size (B) (R) (E) (td) (n) (nI (x % 8)) (nI (1000001 + x)) (nI (5)) (nI (5)) (nI (5)) (2) ((-2000000002)) (by first | assumption | omega) (by first | assumption | omega) (bk2 (m8 x).1 (m8 x).2 (Or.inl (Or.inr (ov (v := 1000001 + x) (k := 1000000) (by omega) (by omega))))) (by decide) rfl) cw_bills_k (by decide) rfl rfl hl.1 rfl (Nat.le_of_ble_eq_true rfl) dL_refuses_132 ⟨Nat.le_of_ble_eq_true rfl, Nat.le_of_ble_eq_true rfl⟩ (fun H locs hP hD hS => ?_)
        refine W.widen (k := 4) (n := 24) (Nat.le_of_ble_eq_true rfl) (Nat.le_of_ble_eq_true rfl) ?_
        refine lv_ldc (v := (-2000000002)) hx hb hown (hts (.constant RL 18 (-2000000002)) kL_refuses_18) dL_refuses_135 ?_
        refine lv_icmp_ne (tgt := 354) hx hb dL_refuses_137 (by decide) (fun c137 => ?_) (fun c137 => ?_)
        · -- 137 taken
          exact absurd rfl c137
        · -- 137 on
          refine lv_aload_n hx hb dL_refuses_140 rfl (lv_at hl 1 rfl) ?_
          refine lv_iload_n hx hb dL_refuses_141 rfl (lv_at hl 2 rfl) ?_
          refine lv_bipush (v := nI (8)) hx hb dL_refuses_142 (by decide) ?_
          refine lv_rem (x := x) (d := 8) hx hb rfl rfl dL_refuses_144 (by omega) (by omega) (by omega) ?_
          refine lv_iconst (v := nI (5)) hx hb dL_refuses_145 (by decide) ?_
          refine lv_iconst (v := nI (0)) hx hb dL_refuses_146 (by decide) ?_
          refine lv_iconst (v := nI (5)) hx hb dL_refuses_147 (by decide) ?_
          refine lv_iconst (v := nI (5)) hx hb dL_refuses_148 (by decide) ?_
          refine zkW (v := (-2000000002)) kCA F (zwCA hP hD hS hA) hK hX hZ (c_L_bills_k l hfl D cI cZ a H.size (B) (R) (E) (td) (n) (nI (x % 8)) (nI (5)) (nI (0)) (nI (5)) (nI (5)) (2) ((-2000000002)) (by first | assumption | omega) (by first | assumption | omega) (bk2 (m8 x).1 (m8 x).2 (Or.inr (Or.inl (Or.inl (by decide))))) (by decide) rfl) cw_bills_k (by decide) rfl rfl hl.1 rfl (Nat.le_of_ble_eq_true rfl) dL_refuses_149 ⟨Nat.le_of_ble_eq_true rfl, Nat.le_of_ble_eq_true rfl⟩ (fun H locs hP hD hS => ?_)
          refine W.widen (k := 5) (n := 30) (Nat.le_of_ble_eq_true rfl) (Nat.le_of_ble_eq_true rfl) ?_
          refine lv_ldc (v := (-2000000002)) hx hb hown (hts (.constant RL 18 (-2000000002)) kL_refuses_18) dL_refuses_152 ?_
          refine lv_icmp_ne (tgt := 354) hx hb dL_refuses_154 (by decide) (fun c154 => ?_) (fun c154 => ?_)
          · -- 154 taken
            exact absurd rfl c154
          · -- 154 on
            refine lv_aload_n hx hb dL_refuses_157 rfl (lv_at hl 1 rfl) ?_
            refine lv_iload_n hx hb dL_refuses_158 rfl (lv_at hl 2 rfl) ?_
            refine lv_bipush (v := nI (8)) hx hb dL_refuses_159 (by decide) ?_
            refine lv_rem (x := x) (d := 8) hx hb rfl rfl dL_refuses_161 (by omega) (by omega) (by omega) ?_
            refine lv_iconst (v := nI (5)) hx hb dL_refuses_162 (by decide) ?_
            refine lv_sipush (v := nI (10000)) hx hb dL_refuses_163 (by decide) ?_
            refine lv_iload_n hx hb dL_refuses_166 rfl (lv_at hl 2 rfl) ?_
            refine lv_sum (x := 10000) (d := x) hx hb rfl rfl dL_refuses_167 ?_
            refine lv_iconst (v := nI (5)) hx hb dL_refuses_168 (by decide) ?_
            refine lv_iconst (v := nI (5)) hx hb dL_refuses_169 (by decide) ?_
            refine zkW (v := (-2000000002)) kCA F (zwCA hP hD hS hA) hK hX hZ (c_L_bills_k l hfl D cI cZ a H.size (B) (R) (E) (td) (n) (nI (x % 8)) (nI (5)) (nI (10000 + x)) (nI (5)) (nI (5)) (2) ((-2000000002)) (by first | assumption | omega) (by first | assumption | omega) (bk2 (m8 x).1 (m8 x).2 (Or.inr (Or.inl (Or.inr (ov (v := 10000 + x) (k := 9999) (by omega) (by omega)))))) (by decide) rfl) cw_bills_k (by decide) rfl rfl hl.1 rfl (Nat.le_of_ble_eq_true rfl) dL_refuses_170 ⟨Nat.le_of_ble_eq_true rfl, Nat.le_of_ble_eq_true rfl⟩ (fun H locs hP hD hS => ?_)
            refine W.widen (k := 6) (n := 36) (Nat.le_of_ble_eq_true rfl) (Nat.le_of_ble_eq_true rfl) ?_
            refine lv_ldc (v := (-2000000002)) hx hb hown (hts (.constant RL 18 (-2000000002)) kL_refuses_18) dL_refuses_173 ?_
            refine lv_icmp_ne (tgt := 354) hx hb dL_refuses_175 (by decide) (fun c175 => ?_) (fun c175 => ?_)
            · -- 175 taken
              exact absurd rfl c175
            · -- 175 on
              exact k178  _ _ _ hP hD hS (lv_sub hl [1, 2, 0, 3, 4] rfl)
set_option maxHeartbeats 8000000 in
set_option maxRecDepth 100000 in
theorem rf_e {p : Program} {l : Launch} {e : Env} {s : State} {m : MethodId} {args : Array Value} {below : List Frame} {meth : Method} {c : Code} {Q : State → Prop} {D : va_G} {A : Nat → Prop} {cI cZ : ClassId} {a : Nat → Nat} {B R E : Nat → Nat → Int32} {td : Int32} {H : Heap} {locs : List Loc} {ls : Array Slot} (n : Nat) (q : Nat) (x : Nat) (none : Int32) (late : Int32) (high : Int32) (F : CallFix p m c cL_refuses 8 s args wsL_refuses RL) (hK : va_K D vwCl (tyl cI cZ) s) (hA : ∀ q : Nat, s.heap.size ≤ q → A q) (hX : ExB s) (hZ : ExZ A s s.heap) (hfl : l.stackTraces = false) (hB : B 11 0 = nI n) (hn : n ≤ 40) (hR : R 8 0 = nI q) (hq : q ≤ 30) (hx9 : x < 9973) (I5 : ∀ j, j < q → R 5 j = 0 ∨ R 5 j = 1) (I0 : ∀ j, j < q → R 0 j = -1 ∨ ¬ R 0 j < 0) (I3 : ∀ j, j < q → ¬ R 3 j < 0) (I8 : ∀ i, i < n → ¬ B 8 i < 0) (e1 : none < 0 ∨ ¬ none < 8) (e2 : ¬ none = -1) (e3 : late < 0 ∨ ¬ late < R 8 0) (e4 : high < 0 ∨ ¬ high < B 11 0) (hP : va_P D vwCl (wCA a cI cZ B R E (td)) H) (hD : va_D A (wCA a cI cZ B R E (td))) (hS : va_S A s.heap H locs) (hl : lv_has ls 8 [(0, .ref (a 0)), (1, .int (nI (x))), (4, .int (high)), (3, .int (late)), (2, .int (none))])
    (k306 : ∀ (H : Heap) (locs : List Loc) (ls : Array Slot), va_P D vwCl (wCA a cI cZ B R E (td)) H → va_D A (wCA a cI cZ B R E (td)) → va_S A s.heap H locs → lv_has ls 8 [(0, .ref (a 0)), (1, .int (nI (x))), (4, .int (high)), (3, .int (late)), (2, .int (none))] → W p l e ({ frames := 9, cells := 44, slots := 264, locals := 184 } : Room) s m args below meth c H locs 14 84 Q (F0 m 306 ls [])) :
    W p l e ({ frames := 9, cells := 44, slots := 264, locals := 184 } : Room) s m args below meth c H locs 6 36 Q (F0 m 178 ls []) := by
  obtain ⟨hx, hb, hml, hown, hts⟩ := id F
  have cw_bills_k : vx_CSW ({ frames := 9, cells := 44, slots := 264, locals := 184 } : Room) s args RL 93 yL_bills cL_bills 7 (some .int) [(0, 11, 12, 13), (0, 11, 17, 16), (0, 11, 22, 19)] wsL_bills ({ frames := 8, cells := 1, slots := 6, locals := 137 } : Room) 1 6 6 := vx_cwSW 6 hts gL_refuses_L_bills rfl rfl rfl (by decide +kernel) ⟨Nat.le_of_ble_eq_true rfl, Nat.le_of_ble_eq_true rfl⟩
  have cw_receives_k : vx_CSW ({ frames := 9, cells := 44, slots := 264, locals := 184 } : Room) s args RL 99 yL_receives cL_receives 5 (some .int) [(0, 7, 8, 13), (0, 7, 13, 16), (0, 7, 18, 19)] wsL_receives ({ frames := 8, cells := 1, slots := 6, locals := 160 } : Room) 1 6 4 := vx_cwSW 4 hts gL_refuses_L_receives rfl rfl rfl (by decide +kernel) ⟨Nat.le_of_ble_eq_true rfl, Nat.le_of_ble_eq_true rfl⟩
  refine lv_aload_n hx hb dL_refuses_178 rfl (lv_at hl 0 rfl) ?_
  refine lv_iload_n hx hb dL_refuses_179 rfl (lv_at hl 1 rfl) ?_
  refine lv_bipush (v := nI (8)) hx hb dL_refuses_180 (by decide) ?_
  refine lv_rem (x := x) (d := 8) hx hb rfl rfl dL_refuses_182 (by omega) (by omega) (by omega) ?_
  refine lv_iconst (v := nI (5)) hx hb dL_refuses_183 (by decide) ?_
  refine lv_iconst (v := nI (5)) hx hb dL_refuses_184 (by decide) ?_
  refine lv_sipush (v := nI (10001)) hx hb dL_refuses_185 (by decide) ?_
  refine lv_iload_n hx hb dL_refuses_188 rfl (lv_at hl 1 rfl) ?_
  refine lv_sum (x := 10001) (d := x) hx hb rfl rfl dL_refuses_189 ?_
  refine lv_iconst (v := nI (5)) hx hb dL_refuses_190 (by decide) ?_
  refine zkW (v := (-2000000002)) kCA F (zwCA hP hD hS hA) hK hX hZ (c_L_bills_k l hfl D cI cZ a H.size (B) (R) (E) (td) (n) (nI (x % 8)) (nI (5)) (nI (5)) (nI (10001 + x)) (nI (5)) (2) ((-2000000002)) (by first | assumption | omega) (by first | assumption | omega) (bk2 (m8 x).1 (m8 x).2 (Or.inr (Or.inr (Or.inl (Or.inr (ov (v := 10001 + x) (k := 10000) (by omega) (by omega))))))) (by decide) rfl) cw_bills_k (by decide) rfl rfl hl.1 rfl (Nat.le_of_ble_eq_true rfl) dL_refuses_191 ⟨Nat.le_of_ble_eq_true rfl, Nat.le_of_ble_eq_true rfl⟩ (fun H locs hP hD hS => ?_)
  refine W.widen (k := 7) (n := 42) (Nat.le_of_ble_eq_true rfl) (Nat.le_of_ble_eq_true rfl) ?_
  refine lv_ldc (v := (-2000000002)) hx hb hown (hts (.constant RL 18 (-2000000002)) kL_refuses_18) dL_refuses_194 ?_
  refine lv_icmp_ne (tgt := 354) hx hb dL_refuses_196 (by decide) (fun c196 => ?_) (fun c196 => ?_)
  · -- 196 taken
    exact absurd rfl c196
  · -- 196 on
    refine lv_aload_n hx hb dL_refuses_199 rfl (lv_at hl 0 rfl) ?_
    refine lv_iload_n hx hb dL_refuses_200 rfl (lv_at hl 1 rfl) ?_
    refine lv_bipush (v := nI (8)) hx hb dL_refuses_201 (by decide) ?_
    refine lv_rem (x := x) (d := 8) hx hb rfl rfl dL_refuses_203 (by omega) (by omega) (by omega) ?_
    refine lv_iconst (v := nI (5)) hx hb dL_refuses_204 (by decide) ?_
    refine lv_iconst (v := nI (5)) hx hb dL_refuses_205 (by decide) ?_
    refine lv_iconst (v := (-1)) hx hb dL_refuses_206 (by decide) ?_
    refine lv_iconst (v := nI (5)) hx hb dL_refuses_207 (by decide) ?_
    refine zkW (v := (-2000000002)) kCA F (zwCA hP hD hS hA) hK hX hZ (c_L_bills_k l hfl D cI cZ a H.size (B) (R) (E) (td) (n) (nI (x % 8)) (nI (5)) (nI (5)) ((-1)) (nI (5)) (2) ((-2000000002)) (by first | assumption | omega) (by first | assumption | omega) (bk2 (m8 x).1 (m8 x).2 (Or.inr (Or.inr (Or.inl (Or.inl (by decide)))))) (by decide) rfl) cw_bills_k (by decide) rfl rfl hl.1 rfl (Nat.le_of_ble_eq_true rfl) dL_refuses_208 ⟨Nat.le_of_ble_eq_true rfl, Nat.le_of_ble_eq_true rfl⟩ (fun H locs hP hD hS => ?_)
    refine W.widen (k := 8) (n := 48) (Nat.le_of_ble_eq_true rfl) (Nat.le_of_ble_eq_true rfl) ?_
    refine lv_ldc (v := (-2000000002)) hx hb hown (hts (.constant RL 18 (-2000000002)) kL_refuses_18) dL_refuses_211 ?_
    refine lv_icmp_ne (tgt := 354) hx hb dL_refuses_213 (by decide) (fun c213 => ?_) (fun c213 => ?_)
    · -- 213 taken
      exact absurd rfl c213
    · -- 213 on
      refine lv_aload_n hx hb dL_refuses_216 rfl (lv_at hl 0 rfl) ?_
      refine lv_iload_n hx hb dL_refuses_217 rfl (lv_at hl 1 rfl) ?_
      refine lv_bipush (v := nI (8)) hx hb dL_refuses_218 (by decide) ?_
      refine lv_rem (x := x) (d := 8) hx hb rfl rfl dL_refuses_220 (by omega) (by omega) (by omega) ?_
      refine lv_iconst (v := nI (5)) hx hb dL_refuses_221 (by decide) ?_
      refine lv_iconst (v := nI (5)) hx hb dL_refuses_222 (by decide) ?_
      refine lv_iconst (v := nI (5)) hx hb dL_refuses_223 (by decide) ?_
      refine lv_bipush (v := nI (91)) hx hb dL_refuses_224 (by decide) ?_
      refine lv_iload_n hx hb dL_refuses_226 rfl (lv_at hl 1 rfl) ?_
      refine lv_sum (x := 91) (d := x) hx hb rfl rfl dL_refuses_227 ?_
      refine zkW (v := (-2000000002)) kCA F (zwCA hP hD hS hA) hK hX hZ (c_L_bills_k l hfl D cI cZ a H.size (B) (R) (E) (td) (n) (nI (x % 8)) (nI (5)) (nI (5)) (nI (5)) (nI (91 + x)) (2) ((-2000000002)) (by first | assumption | omega) (by first | assumption | omega) (bk2 (m8 x).1 (m8 x).2 (Or.inr (Or.inr (Or.inr (Or.inr (ov (v := 91 + x) (k := 90) (by omega) (by omega))))))) (by decide) rfl) cw_bills_k (by decide) rfl rfl hl.1 rfl (Nat.le_of_ble_eq_true rfl) dL_refuses_228 ⟨Nat.le_of_ble_eq_true rfl, Nat.le_of_ble_eq_true rfl⟩ (fun H locs hP hD hS => ?_)
      refine W.widen (k := 9) (n := 54) (Nat.le_of_ble_eq_true rfl) (Nat.le_of_ble_eq_true rfl) ?_
      refine lv_ldc (v := (-2000000002)) hx hb hown (hts (.constant RL 18 (-2000000002)) kL_refuses_18) dL_refuses_231 ?_
      refine lv_icmp_ne (tgt := 354) hx hb dL_refuses_233 (by decide) (fun c233 => ?_) (fun c233 => ?_)
      · -- 233 taken
        exact absurd rfl c233
      · -- 233 on
        refine lv_aload_n hx hb dL_refuses_236 rfl (lv_at hl 0 rfl) ?_
        refine lv_iload_n hx hb dL_refuses_237 rfl (lv_at hl 4 rfl) ?_
        refine lv_iconst (v := nI (0)) hx hb dL_refuses_238 (by decide) ?_
        refine lv_iconst (v := nI (0)) hx hb dL_refuses_239 (by decide) ?_
        refine zkW (v := (-2000000001)) kCA F (zwCA hP hD hS hA) hK hX hZ (c_L_receives_k l hfl D cI cZ a H.size (B) (R) (E) (td) (q) (none) (nI (0)) (nI (0)) (1) ((-2000000001)) (by first | assumption | omega) (by first | assumption | omega) (rk1 e2 e1) (by decide) rfl) cw_receives_k (by decide) rfl rfl hl.1 rfl (Nat.le_of_ble_eq_true rfl) dL_refuses_240 ⟨Nat.le_of_ble_eq_true rfl, Nat.le_of_ble_eq_true rfl⟩ (fun H locs hP hD hS => ?_)
        refine W.widen (k := 10) (n := 60) (Nat.le_of_ble_eq_true rfl) (Nat.le_of_ble_eq_true rfl) ?_
        refine lv_ldc (v := (-2000000001)) hx hb hown (hts (.constant RL 15 (-2000000001)) kL_refuses_15) dL_refuses_243 ?_
        refine lv_icmp_ne (tgt := 354) hx hb dL_refuses_245 (by decide) (fun c245 => ?_) (fun c245 => ?_)
        · -- 245 taken
          exact absurd rfl c245
        · -- 245 on
          refine lv_aload_n hx hb dL_refuses_248 rfl (lv_at hl 0 rfl) ?_
          refine lv_iconst (v := (-1)) hx hb dL_refuses_249 (by decide) ?_
          refine lv_iconst (v := nI (0)) hx hb dL_refuses_250 (by decide) ?_
          refine lv_iconst (v := nI (5)) hx hb dL_refuses_251 (by decide) ?_
          refine zkW (v := (-2000000002)) kCA F (zwCA hP hD hS hA) hK hX hZ (c_L_receives_k l hfl D cI cZ a H.size (B) (R) (E) (td) (q) ((-1)) (nI (0)) (nI (5)) (2) ((-2000000002)) (by first | assumption | omega) (by first | assumption | omega) (rk2 (Or.inl rfl) (Or.inl (Or.inl (by decide)))) (by decide) rfl) cw_receives_k (by decide) rfl rfl hl.1 rfl (Nat.le_of_ble_eq_true rfl) dL_refuses_252 ⟨Nat.le_of_ble_eq_true rfl, Nat.le_of_ble_eq_true rfl⟩ (fun H locs hP hD hS => ?_)
          refine W.widen (k := 11) (n := 66) (Nat.le_of_ble_eq_true rfl) (Nat.le_of_ble_eq_true rfl) ?_
          refine lv_ldc (v := (-2000000002)) hx hb hown (hts (.constant RL 18 (-2000000002)) kL_refuses_18) dL_refuses_255 ?_
          refine lv_icmp_ne (tgt := 354) hx hb dL_refuses_257 (by decide) (fun c257 => ?_) (fun c257 => ?_)
          · -- 257 taken
            exact absurd rfl c257
          · -- 257 on
            refine lv_aload_n hx hb dL_refuses_260 rfl (lv_at hl 0 rfl) ?_
            refine lv_iload_n hx hb dL_refuses_261 rfl (lv_at hl 1 rfl) ?_
            refine lv_bipush (v := nI (8)) hx hb dL_refuses_262 (by decide) ?_
            refine lv_rem (x := x) (d := 8) hx hb rfl rfl dL_refuses_264 (by omega) (by omega) (by omega) ?_
            refine lv_ldc (v := nI (1000001)) hx hb hown (hts (.constant RL 98 (1000001)) kL_refuses_98) dL_refuses_265 ?_
            refine lv_iload_n hx hb dL_refuses_267 rfl (lv_at hl 1 rfl) ?_
            refine lv_sum (x := 1000001) (d := x) hx hb rfl rfl dL_refuses_268 ?_
            refine lv_iconst (v := nI (5)) hx hb dL_refuses_269 (by decide) ?_
            refine zkW (v := (-2000000002)) kCA F (zwCA hP hD hS hA) hK hX hZ (c_L_receives_k l hfl D cI cZ a H.size (B) (R) (E) (td) (q) (nI (x % 8)) (nI (1000001 + x)) (nI (5)) (2) ((-2000000002)) (by first | assumption | omega) (by first | assumption | omega) (rk2 (Or.inr (m8 x)) (Or.inl (Or.inr (ov (v := 1000001 + x) (k := 1000000) (by omega) (by omega))))) (by decide) rfl) cw_receives_k (by decide) rfl rfl hl.1 rfl (Nat.le_of_ble_eq_true rfl) dL_refuses_270 ⟨Nat.le_of_ble_eq_true rfl, Nat.le_of_ble_eq_true rfl⟩ (fun H locs hP hD hS => ?_)
            refine W.widen (k := 12) (n := 72) (Nat.le_of_ble_eq_true rfl) (Nat.le_of_ble_eq_true rfl) ?_
            refine lv_ldc (v := (-2000000002)) hx hb hown (hts (.constant RL 18 (-2000000002)) kL_refuses_18) dL_refuses_273 ?_
            refine lv_icmp_ne (tgt := 354) hx hb dL_refuses_275 (by decide) (fun c275 => ?_) (fun c275 => ?_)
            · -- 275 taken
              exact absurd rfl c275
            · -- 275 on
              refine lv_aload_n hx hb dL_refuses_278 rfl (lv_at hl 0 rfl) ?_
              refine lv_iconst (v := (-1)) hx hb dL_refuses_279 (by decide) ?_
              refine lv_iconst (v := nI (5)) hx hb dL_refuses_280 (by decide) ?_
              refine lv_iconst (v := (-1)) hx hb dL_refuses_281 (by decide) ?_
              refine zkW (v := (-2000000002)) kCA F (zwCA hP hD hS hA) hK hX hZ (c_L_receives_k l hfl D cI cZ a H.size (B) (R) (E) (td) (q) ((-1)) (nI (5)) ((-1)) (2) ((-2000000002)) (by first | assumption | omega) (by first | assumption | omega) (rk2 (Or.inl rfl) (Or.inr (Or.inl (by decide)))) (by decide) rfl) cw_receives_k (by decide) rfl rfl hl.1 rfl (Nat.le_of_ble_eq_true rfl) dL_refuses_282 ⟨Nat.le_of_ble_eq_true rfl, Nat.le_of_ble_eq_true rfl⟩ (fun H locs hP hD hS => ?_)
              refine W.widen (k := 13) (n := 78) (Nat.le_of_ble_eq_true rfl) (Nat.le_of_ble_eq_true rfl) ?_
              refine lv_ldc (v := (-2000000002)) hx hb hown (hts (.constant RL 18 (-2000000002)) kL_refuses_18) dL_refuses_285 ?_
              refine lv_icmp_ne (tgt := 354) hx hb dL_refuses_287 (by decide) (fun c287 => ?_) (fun c287 => ?_)
              · -- 287 taken
                exact absurd rfl c287
              · -- 287 on
                refine lv_aload_n hx hb dL_refuses_290 rfl (lv_at hl 0 rfl) ?_
                refine lv_iconst (v := (-1)) hx hb dL_refuses_291 (by decide) ?_
                refine lv_iconst (v := nI (5)) hx hb dL_refuses_292 (by decide) ?_
                refine lv_sipush (v := nI (10000)) hx hb dL_refuses_293 (by decide) ?_
                refine lv_iload_n hx hb dL_refuses_296 rfl (lv_at hl 1 rfl) ?_
                refine lv_sum (x := 10000) (d := x) hx hb rfl rfl dL_refuses_297 ?_
                refine zkW (v := (-2000000002)) kCA F (zwCA hP hD hS hA) hK hX hZ (c_L_receives_k l hfl D cI cZ a H.size (B) (R) (E) (td) (q) ((-1)) (nI (5)) (nI (10000 + x)) (2) ((-2000000002)) (by first | assumption | omega) (by first | assumption | omega) (rk2 (Or.inl rfl) (Or.inr (Or.inr (ov (v := 10000 + x) (k := 9999) (by omega) (by omega))))) (by decide) rfl) cw_receives_k (by decide) rfl rfl hl.1 rfl (Nat.le_of_ble_eq_true rfl) dL_refuses_298 ⟨Nat.le_of_ble_eq_true rfl, Nat.le_of_ble_eq_true rfl⟩ (fun H locs hP hD hS => ?_)
                refine W.widen (k := 14) (n := 84) (Nat.le_of_ble_eq_true rfl) (Nat.le_of_ble_eq_true rfl) ?_
                refine lv_ldc (v := (-2000000002)) hx hb hown (hts (.constant RL 18 (-2000000002)) kL_refuses_18) dL_refuses_301 ?_
                refine lv_icmp_ne (tgt := 354) hx hb dL_refuses_303 (by decide) (fun c303 => ?_) (fun c303 => ?_)
                · -- 303 taken
                  exact absurd rfl c303
                · -- 303 on
                  exact k306  _ _ _ hP hD hS (lv_sub hl [0, 1, 2, 3, 4] rfl)
set_option maxHeartbeats 8000000 in
set_option maxRecDepth 100000 in
theorem rf_f {p : Program} {l : Launch} {e : Env} {s : State} {m : MethodId} {args : Array Value} {below : List Frame} {meth : Method} {c : Code} {Q : State → Prop} {D : va_G} {A : Nat → Prop} {cI cZ : ClassId} {a : Nat → Nat} {B R E : Nat → Nat → Int32} {td : Int32} {H : Heap} {locs : List Loc} {ls : Array Slot} (n : Nat) (q : Nat) (x : Nat) (none : Int32) (late : Int32) (high : Int32) (F : CallFix p m c cL_refuses 8 s args wsL_refuses RL) (hK : va_K D vwCl (tyl cI cZ) s) (hA : ∀ q : Nat, s.heap.size ≤ q → A q) (hX : ExB s) (hZ : ExZ A s s.heap) (hfl : l.stackTraces = false) (hB : B 11 0 = nI n) (hn : n ≤ 40) (hR : R 8 0 = nI q) (hq : q ≤ 30) (hx9 : x < 9973) (I5 : ∀ j, j < q → R 5 j = 0 ∨ R 5 j = 1) (I0 : ∀ j, j < q → R 0 j = -1 ∨ ¬ R 0 j < 0) (I3 : ∀ j, j < q → ¬ R 3 j < 0) (I8 : ∀ i, i < n → ¬ B 8 i < 0) (e1 : none < 0 ∨ ¬ none < 8) (e2 : ¬ none = -1) (e3 : late < 0 ∨ ¬ late < R 8 0) (e4 : high < 0 ∨ ¬ high < B 11 0) (hP : va_P D vwCl (wCA a cI cZ B R E (td)) H) (hD : va_D A (wCA a cI cZ B R E (td))) (hS : va_S A s.heap H locs) (hl : lv_has ls 8 [(0, .ref (a 0)), (1, .int (nI (x))), (4, .int (high)), (3, .int (late)), (2, .int (none))])
    (k329 : ∀ (H : Heap) (locs : List Loc) (ls : Array Slot), va_P D vwCl (wCA a cI cZ B R E (td)) H → va_D A (wCA a cI cZ B R E (td)) → va_S A s.heap H locs → lv_has ls 8 [(0, .ref (a 0)), (1, .int (nI (x))), (4, .int (high)), (3, .int (late)), (2, .int (none))] → W p l e ({ frames := 9, cells := 44, slots := 264, locals := 184 } : Room) s m args below meth c H locs 15 90 Q (F0 m 329 ls [])) :
    W p l e ({ frames := 9, cells := 44, slots := 264, locals := 184 } : Room) s m args below meth c H locs 14 84 Q (F0 m 306 ls []) := by
  obtain ⟨hx, hb, hml, hown, hts⟩ := id F
  have cv_bills : CallW ({ frames := 9, cells := 44, slots := 264, locals := 184 } : Room) s args RL RX3 90 yX3_bills cX3_bills 1 (some .int) wsX3_bills ({ frames := 0, cells := 0, slots := 0, locals := 0 } : Room) 0 0 0 := cwV 0 hts gL_refuses_X3_bills rfl rfl rfl (by decide +kernel) ⟨Nat.le_of_ble_eq_true rfl, Nat.le_of_ble_eq_true rfl⟩
  have cw_bills_k : vx_CSW ({ frames := 9, cells := 44, slots := 264, locals := 184 } : Room) s args RL 93 yL_bills cL_bills 7 (some .int) [(0, 11, 12, 13), (0, 11, 17, 16), (0, 11, 22, 19)] wsL_bills ({ frames := 8, cells := 1, slots := 6, locals := 137 } : Room) 1 6 6 := vx_cwSW 6 hts gL_refuses_L_bills rfl rfl rfl (by decide +kernel) ⟨Nat.le_of_ble_eq_true rfl, Nat.le_of_ble_eq_true rfl⟩
  refine lv_aload_n hx hb dL_refuses_306 rfl (lv_at hl 0 rfl) ?_
  refine zkV (v := B 11 0) kCA (ci := 3) (q0 := 0) F (zwCA hP hD hS hA) hK (c_X3_bills l D cI cZ a H.size (B) (R) (E) (td) ) cv_bills rfl rfl (by decide) rfl rfl hl.1 rfl (Nat.le_of_ble_eq_true rfl) dL_refuses_307 ⟨Nat.le_of_ble_eq_true rfl, Nat.le_of_ble_eq_true rfl⟩ (fun H locs hP hD hS => ?_)
  rw [hB]
  refine lv_bipush (v := nI (40)) hx hb dL_refuses_310 (by decide) ?_
  refine lv_icmp_lt (tgt := 329) hx hb dL_refuses_312 (by decide) (fun c312 => ?_) (fun c312 => ?_)
  · -- 312 taken
    rw [nI_ltI (by omega) (by omega)] at c312
    refine W.widen (k := 15) (n := 90) (Nat.le_of_ble_eq_true rfl) (Nat.le_of_ble_eq_true rfl) ?_
    exact k329  _ _ _ hP hD hS (lv_sub hl [0, 1, 2, 3, 4] rfl)
  · -- 312 on
    rw [nI_ltI (by omega) (by omega)] at c312
    refine lv_aload_n hx hb dL_refuses_315 rfl (lv_at hl 0 rfl) ?_
    refine lv_iconst (v := nI (0)) hx hb dL_refuses_316 (by decide) ?_
    refine lv_iconst (v := nI (1)) hx hb dL_refuses_317 (by decide) ?_
    refine lv_iconst (v := nI (1)) hx hb dL_refuses_318 (by decide) ?_
    refine lv_iconst (v := nI (0)) hx hb dL_refuses_319 (by decide) ?_
    refine lv_iconst (v := nI (0)) hx hb dL_refuses_320 (by decide) ?_
    refine zkW (v := (-2000000003)) kCA F (zwCA hP hD hS hA) hK hX hZ (c_L_bills_k l hfl D cI cZ a H.size (B) (R) (E) (td) (n) (nI (0)) (nI (1)) (nI (1)) (nI (0)) (nI (0)) (3) ((-2000000003)) (by first | assumption | omega) (by first | assumption | omega) ((show n = 40 by omega) ▸ bk3) (by decide) rfl) cw_bills_k (by decide) rfl rfl hl.1 rfl (Nat.le_of_ble_eq_true rfl) dL_refuses_321 ⟨Nat.le_of_ble_eq_true rfl, Nat.le_of_ble_eq_true rfl⟩ (fun H locs hP hD hS => ?_)
    refine W.widen (k := 15) (n := 90) (Nat.le_of_ble_eq_true rfl) (Nat.le_of_ble_eq_true rfl) ?_
    refine lv_ldc (v := (-2000000003)) hx hb hown (hts (.constant RL 21 (-2000000003)) kL_refuses_21) dL_refuses_324 ?_
    refine lv_icmp_ne (tgt := 354) hx hb dL_refuses_326 (by decide) (fun c326 => ?_) (fun c326 => ?_)
    · -- 326 taken
      exact absurd rfl c326
    · -- 326 on
      exact k329  _ _ _ hP hD hS (lv_sub hl [0, 1, 2, 3, 4] rfl)
set_option maxHeartbeats 8000000 in
set_option maxRecDepth 100000 in
theorem rf_g {p : Program} {l : Launch} {e : Env} {s : State} {m : MethodId} {args : Array Value} {below : List Frame} {meth : Method} {c : Code} {Q : State → Prop} {D : va_G} {A : Nat → Prop} {cI cZ : ClassId} {a : Nat → Nat} {B R E : Nat → Nat → Int32} {td : Int32} {H : Heap} {locs : List Loc} {ls : Array Slot} (n : Nat) (q : Nat) (x : Nat) (none : Int32) (late : Int32) (high : Int32) (F : CallFix p m c cL_refuses 8 s args wsL_refuses RL) (hK : va_K D vwCl (tyl cI cZ) s) (hA : ∀ q : Nat, s.heap.size ≤ q → A q) (hX : ExB s) (hZ : ExZ A s s.heap) (hfl : l.stackTraces = false) (hB : B 11 0 = nI n) (hn : n ≤ 40) (hR : R 8 0 = nI q) (hq : q ≤ 30) (hx9 : x < 9973) (I5 : ∀ j, j < q → R 5 j = 0 ∨ R 5 j = 1) (I0 : ∀ j, j < q → R 0 j = -1 ∨ ¬ R 0 j < 0) (I3 : ∀ j, j < q → ¬ R 3 j < 0) (I8 : ∀ i, i < n → ¬ B 8 i < 0) (e1 : none < 0 ∨ ¬ none < 8) (e2 : ¬ none = -1) (e3 : late < 0 ∨ ¬ late < R 8 0) (e4 : high < 0 ∨ ¬ high < B 11 0) (hP : va_P D vwCl (wCA a cI cZ B R E (td)) H) (hD : va_D A (wCA a cI cZ B R E (td))) (hS : va_S A s.heap H locs) (hl : lv_has ls 8 [(0, .ref (a 0)), (1, .int (nI (x))), (4, .int (high)), (3, .int (late)), (2, .int (none))])
    (k350 : ∀ (H : Heap) (locs : List Loc) (ls : Array Slot), va_P D vwCl (wCA a cI cZ B R E (td)) H → va_D A (wCA a cI cZ B R E (td)) → va_S A s.heap H locs → lv_has ls 8 [(0, .ref (a 0)), (1, .int (nI (x))), (4, .int (high)), (3, .int (late)), (2, .int (none))] → W p l e ({ frames := 9, cells := 44, slots := 264, locals := 184 } : Room) s m args below meth c H locs 16 96 Q (F0 m 350 ls [])) :
    W p l e ({ frames := 9, cells := 44, slots := 264, locals := 184 } : Room) s m args below meth c H locs 15 90 Q (F0 m 329 ls []) := by
  obtain ⟨hx, hb, hml, hown, hts⟩ := id F
  have cv_receipts : CallW ({ frames := 9, cells := 44, slots := 264, locals := 184 } : Room) s args RL RX3 86 yX3_receipts cX3_receipts 1 (some .int) wsX3_receipts ({ frames := 0, cells := 0, slots := 0, locals := 0 } : Room) 0 0 0 := cwV 0 hts gL_refuses_X3_receipts rfl rfl rfl (by decide +kernel) ⟨Nat.le_of_ble_eq_true rfl, Nat.le_of_ble_eq_true rfl⟩
  have cw_receives_k : vx_CSW ({ frames := 9, cells := 44, slots := 264, locals := 184 } : Room) s args RL 99 yL_receives cL_receives 5 (some .int) [(0, 7, 8, 13), (0, 7, 13, 16), (0, 7, 18, 19)] wsL_receives ({ frames := 8, cells := 1, slots := 6, locals := 160 } : Room) 1 6 4 := vx_cwSW 4 hts gL_refuses_L_receives rfl rfl rfl (by decide +kernel) ⟨Nat.le_of_ble_eq_true rfl, Nat.le_of_ble_eq_true rfl⟩
  refine lv_aload_n hx hb dL_refuses_329 rfl (lv_at hl 0 rfl) ?_
  refine zkV (v := R 8 0) kCA (ci := 3) (q0 := 0) F (zwCA hP hD hS hA) hK (c_X3_receipts l D cI cZ a H.size (B) (R) (E) (td) ) cv_receipts rfl rfl (by decide) rfl rfl hl.1 rfl (Nat.le_of_ble_eq_true rfl) dL_refuses_330 ⟨Nat.le_of_ble_eq_true rfl, Nat.le_of_ble_eq_true rfl⟩ (fun H locs hP hD hS => ?_)
  rw [hR]
  refine lv_bipush (v := nI (30)) hx hb dL_refuses_333 (by decide) ?_
  refine lv_icmp_lt (tgt := 350) hx hb dL_refuses_335 (by decide) (fun c335 => ?_) (fun c335 => ?_)
  · -- 335 taken
    rw [nI_ltI (by omega) (by omega)] at c335
    refine W.widen (k := 16) (n := 96) (Nat.le_of_ble_eq_true rfl) (Nat.le_of_ble_eq_true rfl) ?_
    exact k350  _ _ _ hP hD hS (lv_sub hl [0, 1, 2, 3, 4] rfl)
  · -- 335 on
    rw [nI_ltI (by omega) (by omega)] at c335
    refine lv_aload_n hx hb dL_refuses_338 rfl (lv_at hl 0 rfl) ?_
    refine lv_iconst (v := (-1)) hx hb dL_refuses_339 (by decide) ?_
    refine lv_iconst (v := nI (1)) hx hb dL_refuses_340 (by decide) ?_
    refine lv_iconst (v := nI (0)) hx hb dL_refuses_341 (by decide) ?_
    refine zkW (v := (-2000000003)) kCA F (zwCA hP hD hS hA) hK hX hZ (c_L_receives_k l hfl D cI cZ a H.size (B) (R) (E) (td) (q) ((-1)) (nI (1)) (nI (0)) (3) ((-2000000003)) (by first | assumption | omega) (by first | assumption | omega) ((show q = 30 by omega) ▸ rk3) (by decide) rfl) cw_receives_k (by decide) rfl rfl hl.1 rfl (Nat.le_of_ble_eq_true rfl) dL_refuses_342 ⟨Nat.le_of_ble_eq_true rfl, Nat.le_of_ble_eq_true rfl⟩ (fun H locs hP hD hS => ?_)
    refine W.widen (k := 16) (n := 96) (Nat.le_of_ble_eq_true rfl) (Nat.le_of_ble_eq_true rfl) ?_
    refine lv_ldc (v := (-2000000003)) hx hb hown (hts (.constant RL 21 (-2000000003)) kL_refuses_21) dL_refuses_345 ?_
    refine lv_icmp_ne (tgt := 354) hx hb dL_refuses_347 (by decide) (fun c347 => ?_) (fun c347 => ?_)
    · -- 347 taken
      exact absurd rfl c347
    · -- 347 on
      exact k350  _ _ _ hP hD hS (lv_sub hl [0, 1, 2, 3, 4] rfl)
set_option maxHeartbeats 8000000 in
set_option maxRecDepth 100000 in
theorem rf_h {p : Program} {l : Launch} {e : Env} {s : State} {m : MethodId} {args : Array Value} {below : List Frame} {meth : Method} {c : Code} {Q : State → Prop} {D : va_G} {A : Nat → Prop} {cI cZ : ClassId} {a : Nat → Nat} {B R E : Nat → Nat → Int32} {td : Int32} {H : Heap} {locs : List Loc} {ls : Array Slot} (n : Nat) (q : Nat) (x : Nat) (none : Int32) (late : Int32) (high : Int32) (F : CallFix p m c cL_refuses 8 s args wsL_refuses RL) (hK : va_K D vwCl (tyl cI cZ) s) (hA : ∀ q : Nat, s.heap.size ≤ q → A q) (hX : ExB s) (hZ : ExZ A s s.heap) (hfl : l.stackTraces = false) (hB : B 11 0 = nI n) (hn : n ≤ 40) (hR : R 8 0 = nI q) (hq : q ≤ 30) (hx9 : x < 9973) (I5 : ∀ j, j < q → R 5 j = 0 ∨ R 5 j = 1) (I0 : ∀ j, j < q → R 0 j = -1 ∨ ¬ R 0 j < 0) (I3 : ∀ j, j < q → ¬ R 3 j < 0) (I8 : ∀ i, i < n → ¬ B 8 i < 0) (e1 : none < 0 ∨ ¬ none < 8) (e2 : ¬ none = -1) (e3 : late < 0 ∨ ¬ late < R 8 0) (e4 : high < 0 ∨ ¬ high < B 11 0) (hP : va_P D vwCl (wCA a cI cZ B R E (td)) H) (hD : va_D A (wCA a cI cZ B R E (td))) (hS : va_S A s.heap H locs) (hl : lv_has ls 8 [(0, .ref (a 0)), (1, .int (nI (x))), (4, .int (high)), (3, .int (late)), (2, .int (none))])
    (k438 : ∀ (H : Heap) (locs : List Loc) (ls : Array Slot), va_P D vwCl (wCA a cI cZ B R E (td)) H → va_D A (wCA a cI cZ B R E (td)) → va_S A s.heap H locs → lv_has ls 8 [(0, .ref (a 0)), (1, .int (nI (x))), (5, .int (nI (1))), (4, .int (high)), (3, .int (late)), (2, .int (none))] → W p l e ({ frames := 9, cells := 44, slots := 264, locals := 184 } : Room) s m args below meth c H locs 23 138 Q (F0 m 438 ls [])) :
    W p l e ({ frames := 9, cells := 44, slots := 264, locals := 184 } : Room) s m args below meth c H locs 16 96 Q (F0 m 350 ls []) := by
  obtain ⟨hx, hb, hml, hown, hts⟩ := id F
  have cw_assigns_k : vx_CSW ({ frames := 9, cells := 44, slots := 264, locals := 184 } : Room) s args RL 103 yL_assigns cL_assigns 4 (some .int) [(0, 6, 7, 13), (0, 6, 11, 19)] wsL_assigns ({ frames := 8, cells := 1, slots := 6, locals := 158 } : Room) 1 6 3 := vx_cwSW 3 hts gL_refuses_L_assigns rfl rfl rfl (by decide +kernel) ⟨Nat.le_of_ble_eq_true rfl, Nat.le_of_ble_eq_true rfl⟩
  have cw_applies_k : vx_CSW ({ frames := 9, cells := 44, slots := 264, locals := 184 } : Room) s args RL 107 yL_applies cL_applies 3 (some .int) [(0, 5, 6, 13), (0, 5, 10, 19)] wsL_applies ({ frames := 8, cells := 1, slots := 6, locals := 157 } : Room) 1 6 2 := vx_cwSW 2 hts gL_refuses_L_applies rfl rfl rfl (by decide +kernel) ⟨Nat.le_of_ble_eq_true rfl, Nat.le_of_ble_eq_true rfl⟩
  have cw_paysBack_k : vx_CSW ({ frames := 9, cells := 44, slots := 264, locals := 184 } : Room) s args RL 111 yL_paysBack cL_paysBack 3 (some .int) [(0, 5, 6, 13), (0, 5, 10, 19)] wsL_paysBack ({ frames := 8, cells := 1, slots := 6, locals := 132 } : Room) 1 6 2 := vx_cwSW 2 hts gL_refuses_L_paysBack rfl rfl rfl (by decide +kernel) ⟨Nat.le_of_ble_eq_true rfl, Nat.le_of_ble_eq_true rfl⟩
  have cw_bounces_k : vx_CSW ({ frames := 9, cells := 44, slots := 264, locals := 184 } : Room) s args RL 114 yL_bounces cL_bounces 3 (some .int) [(0, 5, 6, 13), (0, 5, 10, 19)] wsL_bounces ({ frames := 8, cells := 1, slots := 6, locals := 134 } : Room) 1 6 2 := vx_cwSW 2 hts gL_refuses_L_bounces rfl rfl rfl (by decide +kernel) ⟨Nat.le_of_ble_eq_true rfl, Nat.le_of_ble_eq_true rfl⟩
  have cw_settles_k : vx_CSW ({ frames := 9, cells := 44, slots := 264, locals := 184 } : Room) s args RL 117 yL_settles cL_settles 4 (some .int) [(0, 6, 7, 13), (0, 6, 11, 19)] wsL_settles ({ frames := 8, cells := 1, slots := 6, locals := 133 } : Room) 1 6 3 := vx_cwSW 3 hts gL_refuses_L_settles rfl rfl rfl (by decide +kernel) ⟨Nat.le_of_ble_eq_true rfl, Nat.le_of_ble_eq_true rfl⟩
  have cw_advances_k : vx_CSW ({ frames := 9, cells := 44, slots := 264, locals := 184 } : Room) s args RL 121 yL_advances cL_advances 3 (some .int) [(0, 5, 6, 16)] wsL_advances ({ frames := 8, cells := 1, slots := 6, locals := 133 } : Room) 1 6 2 := vx_cwSW 2 hts gL_refuses_L_advances rfl rfl rfl (by decide +kernel) ⟨Nat.le_of_ble_eq_true rfl, Nat.le_of_ble_eq_true rfl⟩
  refine lv_iconst (v := nI (1)) hx hb dL_refuses_350 (by decide) ?_
  refine lv_goto (tgt := 355) hx hb dL_refuses_351 (by decide) ?_
  refine lv_istore (lv' := [(5, .int (nI (1))), (0, .ref (a 0)), (1, .int (nI (x))), (4, .int (high)), (3, .int (late)), (2, .int (none))]) hx hb dL_refuses_355 hl (by decide) rfl (fun ls hl => ?_)
  refine lv_iload hx hb dL_refuses_357 (lv_at hl 0 rfl) ?_
  refine lv_if_eq (tgt := 604) hx hb dL_refuses_359 (by decide) (fun c359 => ?_) (fun c359 => ?_)
  · -- 359 taken
    exact absurd c359 (by decide)
  · -- 359 on
    rw [show (0 : Int32) = nI 0 from rfl] at c359
    rw [nI_eq (by omega) (by omega)] at c359
    refine lv_aload_n hx hb dL_refuses_362 rfl (lv_at hl 1 rfl) ?_
    refine lv_iload_n hx hb dL_refuses_363 rfl (lv_at hl 4 rfl) ?_
    refine lv_iconst (v := nI (0)) hx hb dL_refuses_364 (by decide) ?_
    refine zkW (v := (-2000000001)) kCA F (zwCA hP hD hS hA) hK hX hZ (c_L_assigns_k l hfl D cI cZ a H.size (B) (R) (E) (td) (q) (late) (nI (0)) (1) ((-2000000001)) (by first | assumption | omega) (by first | assumption | omega) (ak1 e3) (by decide) rfl) cw_assigns_k (by decide) rfl rfl hl.1 rfl (Nat.le_of_ble_eq_true rfl) dL_refuses_365 ⟨Nat.le_of_ble_eq_true rfl, Nat.le_of_ble_eq_true rfl⟩ (fun H locs hP hD hS => ?_)
    refine W.widen (k := 17) (n := 102) (Nat.le_of_ble_eq_true rfl) (Nat.le_of_ble_eq_true rfl) ?_
    refine lv_ldc (v := (-2000000001)) hx hb hown (hts (.constant RL 15 (-2000000001)) kL_refuses_15) dL_refuses_368 ?_
    refine lv_icmp_ne (tgt := 604) hx hb dL_refuses_370 (by decide) (fun c370 => ?_) (fun c370 => ?_)
    · -- 370 taken
      exact absurd rfl c370
    · -- 370 on
      refine lv_aload_n hx hb dL_refuses_373 rfl (lv_at hl 1 rfl) ?_
      refine lv_iload_n hx hb dL_refuses_374 rfl (lv_at hl 4 rfl) ?_
      refine zkW (v := (-2000000001)) kCA F (zwCA hP hD hS hA) hK hX hZ (c_L_applies_k l hfl D cI cZ a H.size (B) (R) (E) (td) (q) (late) (1) ((-2000000001)) (by first | assumption | omega) (by first | assumption | omega) (pk1 e3) (by decide) rfl) cw_applies_k (by decide) rfl rfl hl.1 rfl (Nat.le_of_ble_eq_true rfl) dL_refuses_375 ⟨Nat.le_of_ble_eq_true rfl, Nat.le_of_ble_eq_true rfl⟩ (fun H locs hP hD hS => ?_)
      refine W.widen (k := 18) (n := 108) (Nat.le_of_ble_eq_true rfl) (Nat.le_of_ble_eq_true rfl) ?_
      refine lv_ldc (v := (-2000000001)) hx hb hown (hts (.constant RL 15 (-2000000001)) kL_refuses_15) dL_refuses_378 ?_
      refine lv_icmp_ne (tgt := 604) hx hb dL_refuses_380 (by decide) (fun c380 => ?_) (fun c380 => ?_)
      · -- 380 taken
        exact absurd rfl c380
      · -- 380 on
        refine lv_aload_n hx hb dL_refuses_383 rfl (lv_at hl 1 rfl) ?_
        refine lv_iload_n hx hb dL_refuses_384 rfl (lv_at hl 4 rfl) ?_
        refine zkW (v := (-2000000001)) kCA F (zwCA hP hD hS hA) hK hX hZ (c_L_paysBack_k l hfl D cI cZ a H.size (B) (R) (E) (td) (q) (late) (1) ((-2000000001)) (by first | assumption | omega) (by first | assumption | omega) (yk1 e3) (by decide) rfl) cw_paysBack_k (by decide) rfl rfl hl.1 rfl (Nat.le_of_ble_eq_true rfl) dL_refuses_385 ⟨Nat.le_of_ble_eq_true rfl, Nat.le_of_ble_eq_true rfl⟩ (fun H locs hP hD hS => ?_)
        refine W.widen (k := 19) (n := 114) (Nat.le_of_ble_eq_true rfl) (Nat.le_of_ble_eq_true rfl) ?_
        refine lv_ldc (v := (-2000000001)) hx hb hown (hts (.constant RL 15 (-2000000001)) kL_refuses_15) dL_refuses_388 ?_
        refine lv_icmp_ne (tgt := 604) hx hb dL_refuses_390 (by decide) (fun c390 => ?_) (fun c390 => ?_)
        · -- 390 taken
          exact absurd rfl c390
        · -- 390 on
          refine lv_aload_n hx hb dL_refuses_393 rfl (lv_at hl 1 rfl) ?_
          refine lv_iload_n hx hb dL_refuses_394 rfl (lv_at hl 4 rfl) ?_
          refine zkW (v := (-2000000001)) kCA F (zwCA hP hD hS hA) hK hX hZ (c_L_bounces_k l hfl D cI cZ a H.size (B) (R) (E) (td) (q) (late) (1) ((-2000000001)) (by first | assumption | omega) (by first | assumption | omega) (ck1 e3) (by decide) rfl) cw_bounces_k (by decide) rfl rfl hl.1 rfl (Nat.le_of_ble_eq_true rfl) dL_refuses_395 ⟨Nat.le_of_ble_eq_true rfl, Nat.le_of_ble_eq_true rfl⟩ (fun H locs hP hD hS => ?_)
          refine W.widen (k := 20) (n := 120) (Nat.le_of_ble_eq_true rfl) (Nat.le_of_ble_eq_true rfl) ?_
          refine lv_ldc (v := (-2000000001)) hx hb hown (hts (.constant RL 15 (-2000000001)) kL_refuses_15) dL_refuses_398 ?_
          refine lv_icmp_ne (tgt := 604) hx hb dL_refuses_400 (by decide) (fun c400 => ?_) (fun c400 => ?_)
          · -- 400 taken
            exact absurd rfl c400
          · -- 400 on
            refine lv_aload_n hx hb dL_refuses_403 rfl (lv_at hl 1 rfl) ?_
            refine lv_iload hx hb dL_refuses_404 (lv_at hl 3 rfl) ?_
            refine lv_iconst (v := nI (1)) hx hb dL_refuses_406 (by decide) ?_
            refine zkW (v := (-2000000001)) kCA F (zwCA hP hD hS hA) hK hX hZ (c_L_settles_k l hfl D cI cZ a H.size (B) (R) (E) (td) (n) (high) (nI (1)) (1) ((-2000000001)) (by first | assumption | omega) (by first | assumption | omega) (sk1 e4) (by decide) rfl) cw_settles_k (by decide) rfl rfl hl.1 rfl (Nat.le_of_ble_eq_true rfl) dL_refuses_407 ⟨Nat.le_of_ble_eq_true rfl, Nat.le_of_ble_eq_true rfl⟩ (fun H locs hP hD hS => ?_)
            refine W.widen (k := 21) (n := 126) (Nat.le_of_ble_eq_true rfl) (Nat.le_of_ble_eq_true rfl) ?_
            refine lv_ldc (v := (-2000000001)) hx hb hown (hts (.constant RL 15 (-2000000001)) kL_refuses_15) dL_refuses_410 ?_
            refine lv_icmp_ne (tgt := 604) hx hb dL_refuses_412 (by decide) (fun c412 => ?_) (fun c412 => ?_)
            · -- 412 taken
              exact absurd rfl c412
            · -- 412 on
              refine lv_aload_n hx hb dL_refuses_415 rfl (lv_at hl 1 rfl) ?_
              refine lv_iconst (v := nI (0)) hx hb dL_refuses_416 (by decide) ?_
              refine zkW (v := (-2000000002)) kCA F (zwCA hP hD hS hA) hK hX hZ (c_L_advances_k l hfl D cI cZ a H.size (B) (R) (E) (td) (nI (0)) (Or.inl (by decide))) cw_advances_k (by decide) rfl rfl hl.1 rfl (Nat.le_of_ble_eq_true rfl) dL_refuses_417 ⟨Nat.le_of_ble_eq_true rfl, Nat.le_of_ble_eq_true rfl⟩ (fun H locs hP hD hS => ?_)
              refine W.widen (k := 22) (n := 132) (Nat.le_of_ble_eq_true rfl) (Nat.le_of_ble_eq_true rfl) ?_
              refine lv_ldc (v := (-2000000002)) hx hb hown (hts (.constant RL 18 (-2000000002)) kL_refuses_18) dL_refuses_420 ?_
              refine lv_icmp_ne (tgt := 604) hx hb dL_refuses_422 (by decide) (fun c422 => ?_) (fun c422 => ?_)
              · -- 422 taken
                exact absurd rfl c422
              · -- 422 on
                refine lv_aload_n hx hb dL_refuses_425 rfl (lv_at hl 1 rfl) ?_
                refine lv_bipush (v := nI (101)) hx hb dL_refuses_426 (by decide) ?_
                refine lv_iload_n hx hb dL_refuses_428 rfl (lv_at hl 2 rfl) ?_
                refine lv_sum (x := 101) (d := x) hx hb rfl rfl dL_refuses_429 ?_
                refine zkW (v := (-2000000002)) kCA F (zwCA hP hD hS hA) hK hX hZ (c_L_advances_k l hfl D cI cZ a H.size (B) (R) (E) (td) (nI (101 + x)) (Or.inr (ov (v := 101 + x) (k := 100) (by omega) (by omega)))) cw_advances_k (by decide) rfl rfl hl.1 rfl (Nat.le_of_ble_eq_true rfl) dL_refuses_430 ⟨Nat.le_of_ble_eq_true rfl, Nat.le_of_ble_eq_true rfl⟩ (fun H locs hP hD hS => ?_)
                refine W.widen (k := 23) (n := 138) (Nat.le_of_ble_eq_true rfl) (Nat.le_of_ble_eq_true rfl) ?_
                refine lv_ldc (v := (-2000000002)) hx hb hown (hts (.constant RL 18 (-2000000002)) kL_refuses_18) dL_refuses_433 ?_
                refine lv_icmp_ne (tgt := 604) hx hb dL_refuses_435 (by decide) (fun c435 => ?_) (fun c435 => ?_)
                · -- 435 taken
                  exact absurd rfl c435
                · -- 435 on
                  exact k438  _ _ _ hP hD hS (lv_sub hl [1, 2, 0, 3, 4, 5] rfl)
set_option maxHeartbeats 8000000 in
set_option maxRecDepth 100000 in
theorem rf_i {p : Program} {l : Launch} {e : Env} {s : State} {m : MethodId} {args : Array Value} {below : List Frame} {meth : Method} {c : Code} {Q : State → Prop} {D : va_G} {A : Nat → Prop} {cI cZ : ClassId} {a : Nat → Nat} {B R E : Nat → Nat → Int32} {td : Int32} {H : Heap} {locs : List Loc} {ls : Array Slot} (n : Nat) (q : Nat) (x : Nat) (none : Int32) (late : Int32) (high : Int32) (F : CallFix p m c cL_refuses 8 s args wsL_refuses RL) (hK : va_K D vwCl (tyl cI cZ) s) (hA : ∀ q : Nat, s.heap.size ≤ q → A q) (hX : ExB s) (hZ : ExZ A s s.heap) (hfl : l.stackTraces = false) (hB : B 11 0 = nI n) (hn : n ≤ 40) (hR : R 8 0 = nI q) (hq : q ≤ 30) (hx9 : x < 9973) (I5 : ∀ j, j < q → R 5 j = 0 ∨ R 5 j = 1) (I0 : ∀ j, j < q → R 0 j = -1 ∨ ¬ R 0 j < 0) (I3 : ∀ j, j < q → ¬ R 3 j < 0) (I8 : ∀ i, i < n → ¬ B 8 i < 0) (e1 : none < 0 ∨ ¬ none < 8) (e2 : ¬ none = -1) (e3 : late < 0 ∨ ¬ late < R 8 0) (e4 : high < 0 ∨ ¬ high < B 11 0) (hP : va_P D vwCl (wCA a cI cZ B R E (td)) H) (hD : va_D A (wCA a cI cZ B R E (td))) (hS : va_S A s.heap H locs) (hl : lv_has ls 8 [(0, .ref (a 0)), (1, .int (nI (x))), (5, .int (nI (1))), (4, .int (high)), (3, .int (late)), (2, .int (none))])
    (k526 : ∀ (H : Heap) (locs : List Loc) (ls : Array Slot), va_P D vwCl (wCA a cI cZ B R E (td)) H → va_D A (wCA a cI cZ B R E (td)) → va_S A s.heap H locs → lv_has ls 8 [(0, .ref (a 0)), (1, .int (nI (x))), (5, .int (nI (1))), (4, .int (high)), (3, .int (late)), (2, .int (none))] → W p l e ({ frames := 9, cells := 44, slots := 264, locals := 184 } : Room) s m args below meth c H locs 31 186 Q (F0 m 526 ls [])) :
    W p l e ({ frames := 9, cells := 44, slots := 264, locals := 184 } : Room) s m args below meth c H locs 23 138 Q (F0 m 438 ls []) := by
  obtain ⟨hx, hb, hml, hown, hts⟩ := id F
  have cw_open_k : vx_CSW ({ frames := 9, cells := 44, slots := 264, locals := 184 } : Room) s args RL 124 yL_open cL_open 3 (some .int) [(0, 5, 6, 13)] wsL_open ({ frames := 8, cells := 1, slots := 6, locals := 132 } : Room) 1 6 2 := vx_cwSW 2 hts gL_refuses_L_open rfl rfl rfl (by decide +kernel) ⟨Nat.le_of_ble_eq_true rfl, Nat.le_of_ble_eq_true rfl⟩
  have cw_due_k : vx_CSW ({ frames := 9, cells := 44, slots := 264, locals := 184 } : Room) s args RL 126 yL_due cL_due 3 (some .int) [(0, 5, 6, 13)] wsL_due ({ frames := 8, cells := 1, slots := 6, locals := 132 } : Room) 1 6 2 := vx_cwSW 2 hts gL_refuses_L_due rfl rfl rfl (by decide +kernel) ⟨Nat.le_of_ble_eq_true rfl, Nat.le_of_ble_eq_true rfl⟩
  have cw_paid_k : vx_CSW ({ frames := 9, cells := 44, slots := 264, locals := 184 } : Room) s args RL 128 yL_paid cL_paid 3 (some .int) [(0, 5, 6, 13)] wsL_paid ({ frames := 8, cells := 1, slots := 6, locals := 132 } : Room) 1 6 2 := vx_cwSW 2 hts gL_refuses_L_paid rfl rfl rfl (by decide +kernel) ⟨Nat.le_of_ble_eq_true rfl, Nat.le_of_ble_eq_true rfl⟩
  have cw_taken_k : vx_CSW ({ frames := 9, cells := 44, slots := 264, locals := 184 } : Room) s args RL 130 yL_taken cL_taken 3 (some .int) [(0, 5, 6, 13)] wsL_taken ({ frames := 8, cells := 1, slots := 6, locals := 132 } : Room) 1 6 2 := vx_cwSW 2 hts gL_refuses_L_taken rfl rfl rfl (by decide +kernel) ⟨Nat.le_of_ble_eq_true rfl, Nat.le_of_ble_eq_true rfl⟩
  have cw_disputed_k : vx_CSW ({ frames := 9, cells := 44, slots := 264, locals := 184 } : Room) s args RL 132 yL_disputed cL_disputed 3 (some .int) [(0, 5, 6, 13)] wsL_disputed ({ frames := 8, cells := 1, slots := 6, locals := 132 } : Room) 1 6 2 := vx_cwSW 2 hts gL_refuses_L_disputed rfl rfl rfl (by decide +kernel) ⟨Nat.le_of_ble_eq_true rfl, Nat.le_of_ble_eq_true rfl⟩
  have cw_written_k : vx_CSW ({ frames := 9, cells := 44, slots := 264, locals := 184 } : Room) s args RL 134 yL_written cL_written 3 (some .int) [(0, 5, 6, 13)] wsL_written ({ frames := 8, cells := 1, slots := 6, locals := 132 } : Room) 1 6 2 := vx_cwSW 2 hts gL_refuses_L_written rfl rfl rfl (by decide +kernel) ⟨Nat.le_of_ble_eq_true rfl, Nat.le_of_ble_eq_true rfl⟩
  have cw_openOf_k : vx_CSW ({ frames := 9, cells := 44, slots := 264, locals := 184 } : Room) s args RL 137 yL_openOf cL_openOf 3 (some .int) [(0, 5, 6, 13)] wsL_openOf ({ frames := 8, cells := 1, slots := 6, locals := 133 } : Room) 1 6 2 := vx_cwSW 2 hts gL_refuses_L_openOf rfl rfl rfl (by decide +kernel) ⟨Nat.le_of_ble_eq_true rfl, Nat.le_of_ble_eq_true rfl⟩
  have cw_setFor_k : vx_CSW ({ frames := 9, cells := 44, slots := 264, locals := 184 } : Room) s args RL 139 yL_setFor cL_setFor 5 (some .int) [(0, 7, 8, 13), (0, 7, 13, 16)] wsL_setFor ({ frames := 8, cells := 1, slots := 6, locals := 133 } : Room) 1 6 4 := vx_cwSW 4 hts gL_refuses_L_setFor rfl rfl rfl (by decide +kernel) ⟨Nat.le_of_ble_eq_true rfl, Nat.le_of_ble_eq_true rfl⟩
  refine lv_aload_n hx hb dL_refuses_438 rfl (lv_at hl 0 rfl) ?_
  refine lv_iload hx hb dL_refuses_439 (lv_at hl 3 rfl) ?_
  refine zkW (v := (-2000000001)) kCA F (zwCA hP hD hS hA) hK hX hZ (c_L_open_k l hfl D cI cZ a H.size (B) (R) (E) (td) (high) (e4)) cw_open_k (by decide) rfl rfl hl.1 rfl (Nat.le_of_ble_eq_true rfl) dL_refuses_441 ⟨Nat.le_of_ble_eq_true rfl, Nat.le_of_ble_eq_true rfl⟩ (fun H locs hP hD hS => ?_)
  refine W.widen (k := 24) (n := 144) (Nat.le_of_ble_eq_true rfl) (Nat.le_of_ble_eq_true rfl) ?_
  refine lv_ldc (v := (-2000000001)) hx hb hown (hts (.constant RL 15 (-2000000001)) kL_refuses_15) dL_refuses_444 ?_
  refine lv_icmp_ne (tgt := 604) hx hb dL_refuses_446 (by decide) (fun c446 => ?_) (fun c446 => ?_)
  · -- 446 taken
    exact absurd rfl c446
  · -- 446 on
    refine lv_aload_n hx hb dL_refuses_449 rfl (lv_at hl 0 rfl) ?_
    refine lv_iload hx hb dL_refuses_450 (lv_at hl 3 rfl) ?_
    refine zkW (v := (-2000000001)) kCA F (zwCA hP hD hS hA) hK hX hZ (c_L_due_k l hfl D cI cZ a H.size (B) (R) (E) (td) (high) (e4)) cw_due_k (by decide) rfl rfl hl.1 rfl (Nat.le_of_ble_eq_true rfl) dL_refuses_452 ⟨Nat.le_of_ble_eq_true rfl, Nat.le_of_ble_eq_true rfl⟩ (fun H locs hP hD hS => ?_)
    refine W.widen (k := 25) (n := 150) (Nat.le_of_ble_eq_true rfl) (Nat.le_of_ble_eq_true rfl) ?_
    refine lv_ldc (v := (-2000000001)) hx hb hown (hts (.constant RL 15 (-2000000001)) kL_refuses_15) dL_refuses_455 ?_
    refine lv_icmp_ne (tgt := 604) hx hb dL_refuses_457 (by decide) (fun c457 => ?_) (fun c457 => ?_)
    · -- 457 taken
      exact absurd rfl c457
    · -- 457 on
      refine lv_aload_n hx hb dL_refuses_460 rfl (lv_at hl 0 rfl) ?_
      refine lv_iload hx hb dL_refuses_461 (lv_at hl 3 rfl) ?_
      refine zkW (v := (-2000000001)) kCA F (zwCA hP hD hS hA) hK hX hZ (c_L_paid_k l hfl D cI cZ a H.size (B) (R) (E) (td) (high) (e4)) cw_paid_k (by decide) rfl rfl hl.1 rfl (Nat.le_of_ble_eq_true rfl) dL_refuses_463 ⟨Nat.le_of_ble_eq_true rfl, Nat.le_of_ble_eq_true rfl⟩ (fun H locs hP hD hS => ?_)
      refine W.widen (k := 26) (n := 156) (Nat.le_of_ble_eq_true rfl) (Nat.le_of_ble_eq_true rfl) ?_
      refine lv_ldc (v := (-2000000001)) hx hb hown (hts (.constant RL 15 (-2000000001)) kL_refuses_15) dL_refuses_466 ?_
      refine lv_icmp_ne (tgt := 604) hx hb dL_refuses_468 (by decide) (fun c468 => ?_) (fun c468 => ?_)
      · -- 468 taken
        exact absurd rfl c468
      · -- 468 on
        refine lv_aload_n hx hb dL_refuses_471 rfl (lv_at hl 0 rfl) ?_
        refine lv_iload hx hb dL_refuses_472 (lv_at hl 3 rfl) ?_
        refine zkW (v := (-2000000001)) kCA F (zwCA hP hD hS hA) hK hX hZ (c_L_taken_k l hfl D cI cZ a H.size (B) (R) (E) (td) (high) (e4)) cw_taken_k (by decide) rfl rfl hl.1 rfl (Nat.le_of_ble_eq_true rfl) dL_refuses_474 ⟨Nat.le_of_ble_eq_true rfl, Nat.le_of_ble_eq_true rfl⟩ (fun H locs hP hD hS => ?_)
        refine W.widen (k := 27) (n := 162) (Nat.le_of_ble_eq_true rfl) (Nat.le_of_ble_eq_true rfl) ?_
        refine lv_ldc (v := (-2000000001)) hx hb hown (hts (.constant RL 15 (-2000000001)) kL_refuses_15) dL_refuses_477 ?_
        refine lv_icmp_ne (tgt := 604) hx hb dL_refuses_479 (by decide) (fun c479 => ?_) (fun c479 => ?_)
        · -- 479 taken
          exact absurd rfl c479
        · -- 479 on
          refine lv_aload_n hx hb dL_refuses_482 rfl (lv_at hl 0 rfl) ?_
          refine lv_iload hx hb dL_refuses_483 (lv_at hl 3 rfl) ?_
          refine zkW (v := (-2000000001)) kCA F (zwCA hP hD hS hA) hK hX hZ (c_L_disputed_k l hfl D cI cZ a H.size (B) (R) (E) (td) (high) (e4)) cw_disputed_k (by decide) rfl rfl hl.1 rfl (Nat.le_of_ble_eq_true rfl) dL_refuses_485 ⟨Nat.le_of_ble_eq_true rfl, Nat.le_of_ble_eq_true rfl⟩ (fun H locs hP hD hS => ?_)
          refine W.widen (k := 28) (n := 168) (Nat.le_of_ble_eq_true rfl) (Nat.le_of_ble_eq_true rfl) ?_
          refine lv_ldc (v := (-2000000001)) hx hb hown (hts (.constant RL 15 (-2000000001)) kL_refuses_15) dL_refuses_488 ?_
          refine lv_icmp_ne (tgt := 604) hx hb dL_refuses_490 (by decide) (fun c490 => ?_) (fun c490 => ?_)
          · -- 490 taken
            exact absurd rfl c490
          · -- 490 on
            refine lv_aload_n hx hb dL_refuses_493 rfl (lv_at hl 0 rfl) ?_
            refine lv_iload hx hb dL_refuses_494 (lv_at hl 3 rfl) ?_
            refine zkW (v := (-2000000001)) kCA F (zwCA hP hD hS hA) hK hX hZ (c_L_written_k l hfl D cI cZ a H.size (B) (R) (E) (td) (high) (e4)) cw_written_k (by decide) rfl rfl hl.1 rfl (Nat.le_of_ble_eq_true rfl) dL_refuses_496 ⟨Nat.le_of_ble_eq_true rfl, Nat.le_of_ble_eq_true rfl⟩ (fun H locs hP hD hS => ?_)
            refine W.widen (k := 29) (n := 174) (Nat.le_of_ble_eq_true rfl) (Nat.le_of_ble_eq_true rfl) ?_
            refine lv_ldc (v := (-2000000001)) hx hb hown (hts (.constant RL 15 (-2000000001)) kL_refuses_15) dL_refuses_499 ?_
            refine lv_icmp_ne (tgt := 604) hx hb dL_refuses_501 (by decide) (fun c501 => ?_) (fun c501 => ?_)
            · -- 501 taken
              exact absurd rfl c501
            · -- 501 on
              refine lv_aload_n hx hb dL_refuses_504 rfl (lv_at hl 0 rfl) ?_
              refine lv_iload_n hx hb dL_refuses_505 rfl (lv_at hl 5 rfl) ?_
              refine zkW (v := (-2000000001)) kCA F (zwCA hP hD hS hA) hK hX hZ (c_L_openOf_k l hfl D cI cZ a H.size (B) (R) (E) (td) (none) (e1)) cw_openOf_k (by decide) rfl rfl hl.1 rfl (Nat.le_of_ble_eq_true rfl) dL_refuses_506 ⟨Nat.le_of_ble_eq_true rfl, Nat.le_of_ble_eq_true rfl⟩ (fun H locs hP hD hS => ?_)
              refine W.widen (k := 30) (n := 180) (Nat.le_of_ble_eq_true rfl) (Nat.le_of_ble_eq_true rfl) ?_
              refine lv_ldc (v := (-2000000001)) hx hb hown (hts (.constant RL 15 (-2000000001)) kL_refuses_15) dL_refuses_509 ?_
              refine lv_icmp_ne (tgt := 604) hx hb dL_refuses_511 (by decide) (fun c511 => ?_) (fun c511 => ?_)
              · -- 511 taken
                exact absurd rfl c511
              · -- 511 on
                refine lv_aload_n hx hb dL_refuses_514 rfl (lv_at hl 0 rfl) ?_
                refine lv_iload_n hx hb dL_refuses_515 rfl (lv_at hl 5 rfl) ?_
                refine lv_iconst (v := nI (0)) hx hb dL_refuses_516 (by decide) ?_
                refine lv_iconst (v := nI (0)) hx hb dL_refuses_517 (by decide) ?_
                refine zkW (v := (-2000000001)) kCA F (zwCA hP hD hS hA) hK hX hZ (c_L_setFor_k l hfl D cI cZ a H.size (B) (R) (E) (td) (none) (nI (0)) (nI (0)) (1) ((-2000000001)) (tk1 (Or.inl e1)) (by decide) rfl) cw_setFor_k (by decide) rfl rfl hl.1 rfl (Nat.le_of_ble_eq_true rfl) dL_refuses_518 ⟨Nat.le_of_ble_eq_true rfl, Nat.le_of_ble_eq_true rfl⟩ (fun H locs hP hD hS => ?_)
                refine W.widen (k := 31) (n := 186) (Nat.le_of_ble_eq_true rfl) (Nat.le_of_ble_eq_true rfl) ?_
                refine lv_ldc (v := (-2000000001)) hx hb hown (hts (.constant RL 15 (-2000000001)) kL_refuses_15) dL_refuses_521 ?_
                refine lv_icmp_ne (tgt := 604) hx hb dL_refuses_523 (by decide) (fun c523 => ?_) (fun c523 => ?_)
                · -- 523 taken
                  exact absurd rfl c523
                · -- 523 on
                  exact k526  _ _ _ hP hD hS (lv_sub hl [0, 1, 2, 3, 4, 5] rfl)
set_option maxHeartbeats 8000000 in
set_option maxRecDepth 100000 in
theorem rf_j {p : Program} {l : Launch} {e : Env} {s : State} {m : MethodId} {args : Array Value} {below : List Frame} {meth : Method} {c : Code} {Q : State → Prop} {D : va_G} {A : Nat → Prop} {cI cZ : ClassId} {a : Nat → Nat} {B R E : Nat → Nat → Int32} {td : Int32} {H : Heap} {locs : List Loc} {ls : Array Slot} (n : Nat) (q : Nat) (x : Nat) (none : Int32) (late : Int32) (high : Int32) (F : CallFix p m c cL_refuses 8 s args wsL_refuses RL) (hK : va_K D vwCl (tyl cI cZ) s) (hA : ∀ q : Nat, s.heap.size ≤ q → A q) (hX : ExB s) (hZ : ExZ A s s.heap) (hfl : l.stackTraces = false) (hB : B 11 0 = nI n) (hn : n ≤ 40) (hR : R 8 0 = nI q) (hq : q ≤ 30) (hx9 : x < 9973) (I5 : ∀ j, j < q → R 5 j = 0 ∨ R 5 j = 1) (I0 : ∀ j, j < q → R 0 j = -1 ∨ ¬ R 0 j < 0) (I3 : ∀ j, j < q → ¬ R 3 j < 0) (I8 : ∀ i, i < n → ¬ B 8 i < 0) (e1 : none < 0 ∨ ¬ none < 8) (e2 : ¬ none = -1) (e3 : late < 0 ∨ ¬ late < R 8 0) (e4 : high < 0 ∨ ¬ high < B 11 0) (hP : va_P D vwCl (wCA a cI cZ B R E (td)) H) (hD : va_D A (wCA a cI cZ B R E (td))) (hS : va_S A s.heap H locs) (hl : lv_has ls 8 [(0, .ref (a 0)), (1, .int (nI (x))), (5, .int (nI (1))), (4, .int (high)), (3, .int (late)), (2, .int (none))])
    (k605 : ∀ (H : Heap) (locs : List Loc) (ls : Array Slot), va_P D vwCl (wCA a cI cZ B R E (td)) H → va_D A (wCA a cI cZ B R E (td)) → va_S A s.heap H locs → lv_has ls 8 [(0, .ref (a 0)), (1, .int (nI (x))), (5, .int (nI (1))), (4, .int (high)), (3, .int (late)), (2, .int (none))] → W p l e ({ frames := 9, cells := 44, slots := 264, locals := 184 } : Room) s m args below meth c H locs 37 222 Q (F0 m 605 ls [.int (nI (1))])) :
    W p l e ({ frames := 9, cells := 44, slots := 264, locals := 184 } : Room) s m args below meth c H locs 31 186 Q (F0 m 526 ls []) := by
  obtain ⟨hx, hb, hml, hown, hts⟩ := id F
  have cw_setFor_k : vx_CSW ({ frames := 9, cells := 44, slots := 264, locals := 184 } : Room) s args RL 139 yL_setFor cL_setFor 5 (some .int) [(0, 7, 8, 13), (0, 7, 13, 16)] wsL_setFor ({ frames := 8, cells := 1, slots := 6, locals := 133 } : Room) 1 6 4 := vx_cwSW 4 hts gL_refuses_L_setFor rfl rfl rfl (by decide +kernel) ⟨Nat.le_of_ble_eq_true rfl, Nat.le_of_ble_eq_true rfl⟩
  have cw_customer_k : vx_CSW ({ frames := 9, cells := 44, slots := 264, locals := 184 } : Room) s args RL 141 yL_customer cL_customer 3 (some .int) [(0, 5, 6, 13)] wsL_customer ({ frames := 8, cells := 1, slots := 6, locals := 132 } : Room) 1 6 2 := vx_cwSW 2 hts gL_refuses_L_customer rfl rfl rfl (by decide +kernel) ⟨Nat.le_of_ble_eq_true rfl, Nat.le_of_ble_eq_true rfl⟩
  have cw_appliedTo_k : vx_CSW ({ frames := 9, cells := 44, slots := 264, locals := 184 } : Room) s args RL 144 yL_appliedTo cL_appliedTo 4 (some .int) [(0, 6, 7, 13)] wsL_appliedTo ({ frames := 8, cells := 1, slots := 6, locals := 133 } : Room) 1 6 3 := vx_cwSW 3 hts gL_refuses_L_appliedTo rfl rfl rfl (by decide +kernel) ⟨Nat.le_of_ble_eq_true rfl, Nat.le_of_ble_eq_true rfl⟩
  have cw_unapplied_k : vx_CSW ({ frames := 9, cells := 44, slots := 264, locals := 184 } : Room) s args RL 146 yL_unapplied cL_unapplied 3 (some .int) [(0, 5, 6, 13)] wsL_unapplied ({ frames := 8, cells := 1, slots := 6, locals := 132 } : Room) 1 6 2 := vx_cwSW 2 hts gL_refuses_L_unapplied rfl rfl rfl (by decide +kernel) ⟨Nat.le_of_ble_eq_true rfl, Nat.le_of_ble_eq_true rfl⟩
  have cw_bounced_k : vx_CSW ({ frames := 9, cells := 44, slots := 264, locals := 184 } : Room) s args RL 148 yL_bounced cL_bounced 3 (some .int) [(0, 13, 14, 13)] wsL_bounced ({ frames := 8, cells := 1, slots := 6, locals := 132 } : Room) 1 6 2 := vx_cwSW 2 hts gL_refuses_L_bounced rfl rfl rfl (by decide +kernel) ⟨Nat.le_of_ble_eq_true rfl, Nat.le_of_ble_eq_true rfl⟩
  refine lv_aload_n hx hb dL_refuses_526 rfl (lv_at hl 0 rfl) ?_
  refine lv_iload_n hx hb dL_refuses_527 rfl (lv_at hl 1 rfl) ?_
  refine lv_bipush (v := nI (8)) hx hb dL_refuses_528 (by decide) ?_
  refine lv_rem (x := x) (d := 8) hx hb rfl rfl dL_refuses_530 (by omega) (by omega) (by omega) ?_
  refine lv_iconst (v := nI (5)) hx hb dL_refuses_531 (by decide) ?_
  refine lv_iconst (v := nI (3)) hx hb dL_refuses_532 (by decide) ?_
  refine lv_iload_n hx hb dL_refuses_533 rfl (lv_at hl 1 rfl) ?_
  refine lv_sum (x := 3) (d := x) hx hb rfl rfl dL_refuses_534 ?_
  refine zkW (v := (-2000000001)) kCA F (zwCA hP hD hS hA) hK hX hZ (c_L_setFor_k l hfl D cI cZ a H.size (B) (R) (E) (td) (nI (x % 8)) (nI (5)) (nI (3 + x)) (1) ((-2000000001)) (tk1 (Or.inr (Or.inr (nI_nlt (b := 3) (by omega) (by omega))))) (by decide) rfl) cw_setFor_k (by decide) rfl rfl hl.1 rfl (Nat.le_of_ble_eq_true rfl) dL_refuses_535 ⟨Nat.le_of_ble_eq_true rfl, Nat.le_of_ble_eq_true rfl⟩ (fun H locs hP hD hS => ?_)
  refine W.widen (k := 32) (n := 192) (Nat.le_of_ble_eq_true rfl) (Nat.le_of_ble_eq_true rfl) ?_
  refine lv_ldc (v := (-2000000001)) hx hb hown (hts (.constant RL 15 (-2000000001)) kL_refuses_15) dL_refuses_538 ?_
  refine lv_icmp_ne (tgt := 604) hx hb dL_refuses_540 (by decide) (fun c540 => ?_) (fun c540 => ?_)
  · -- 540 taken
    exact absurd rfl c540
  · -- 540 on
    refine lv_aload_n hx hb dL_refuses_543 rfl (lv_at hl 0 rfl) ?_
    refine lv_iload_n hx hb dL_refuses_544 rfl (lv_at hl 1 rfl) ?_
    refine lv_bipush (v := nI (8)) hx hb dL_refuses_545 (by decide) ?_
    refine lv_rem (x := x) (d := 8) hx hb rfl rfl dL_refuses_547 (by omega) (by omega) (by omega) ?_
    refine lv_iload_n hx hb dL_refuses_548 rfl (lv_at hl 1 rfl) ?_
    refine lv_ineg hx hb dL_refuses_549 ?_
    refine lv_iconst (v := nI (0)) hx hb dL_refuses_550 (by decide) ?_
    refine zkW (v := (-2000000002)) kCA F (zwCA hP hD hS hA) hK hX hZ (c_L_setFor_k l hfl D cI cZ a H.size (B) (R) (E) (td) (nI (x % 8)) (-(nI (x))) (nI (0)) (2) ((-2000000002)) (tk2 (m8 x).1 (m8 x).2 (by decide) (by decide) (le_neg (by omega))) (by decide) rfl) cw_setFor_k (by decide) rfl rfl hl.1 rfl (Nat.le_of_ble_eq_true rfl) dL_refuses_551 ⟨Nat.le_of_ble_eq_true rfl, Nat.le_of_ble_eq_true rfl⟩ (fun H locs hP hD hS => ?_)
    refine W.widen (k := 33) (n := 198) (Nat.le_of_ble_eq_true rfl) (Nat.le_of_ble_eq_true rfl) ?_
    refine lv_ldc (v := (-2000000002)) hx hb hown (hts (.constant RL 18 (-2000000002)) kL_refuses_18) dL_refuses_554 ?_
    refine lv_icmp_ne (tgt := 604) hx hb dL_refuses_556 (by decide) (fun c556 => ?_) (fun c556 => ?_)
    · -- 556 taken
      exact absurd rfl c556
    · -- 556 on
      refine lv_aload_n hx hb dL_refuses_559 rfl (lv_at hl 0 rfl) ?_
      refine lv_iload_n hx hb dL_refuses_560 rfl (lv_at hl 4 rfl) ?_
      refine zkW (v := (-2000000001)) kCA F (zwCA hP hD hS hA) hK hX hZ (c_L_customer_k l hfl D cI cZ a H.size (B) (R) (E) (td) (late) (e3)) cw_customer_k (by decide) rfl rfl hl.1 rfl (Nat.le_of_ble_eq_true rfl) dL_refuses_561 ⟨Nat.le_of_ble_eq_true rfl, Nat.le_of_ble_eq_true rfl⟩ (fun H locs hP hD hS => ?_)
      refine W.widen (k := 34) (n := 204) (Nat.le_of_ble_eq_true rfl) (Nat.le_of_ble_eq_true rfl) ?_
      refine lv_ldc (v := (-2000000001)) hx hb hown (hts (.constant RL 15 (-2000000001)) kL_refuses_15) dL_refuses_564 ?_
      refine lv_icmp_ne (tgt := 604) hx hb dL_refuses_566 (by decide) (fun c566 => ?_) (fun c566 => ?_)
      · -- 566 taken
        exact absurd rfl c566
      · -- 566 on
        refine lv_aload_n hx hb dL_refuses_569 rfl (lv_at hl 0 rfl) ?_
        refine lv_iload_n hx hb dL_refuses_570 rfl (lv_at hl 4 rfl) ?_
        refine lv_iconst (v := nI (0)) hx hb dL_refuses_571 (by decide) ?_
        refine zkW (v := (-2000000001)) kCA F (zwCA hP hD hS hA) hK hX hZ (c_L_appliedTo_k l hfl D cI cZ a H.size (B) (R) (E) (td) (late) (nI (0)) (Or.inl e3)) cw_appliedTo_k (by decide) rfl rfl hl.1 rfl (Nat.le_of_ble_eq_true rfl) dL_refuses_572 ⟨Nat.le_of_ble_eq_true rfl, Nat.le_of_ble_eq_true rfl⟩ (fun H locs hP hD hS => ?_)
        refine W.widen (k := 35) (n := 210) (Nat.le_of_ble_eq_true rfl) (Nat.le_of_ble_eq_true rfl) ?_
        refine lv_ldc (v := (-2000000001)) hx hb hown (hts (.constant RL 15 (-2000000001)) kL_refuses_15) dL_refuses_575 ?_
        refine lv_icmp_ne (tgt := 604) hx hb dL_refuses_577 (by decide) (fun c577 => ?_) (fun c577 => ?_)
        · -- 577 taken
          exact absurd rfl c577
        · -- 577 on
          refine lv_aload_n hx hb dL_refuses_580 rfl (lv_at hl 0 rfl) ?_
          refine lv_iload_n hx hb dL_refuses_581 rfl (lv_at hl 4 rfl) ?_
          refine zkW (v := (-2000000001)) kCA F (zwCA hP hD hS hA) hK hX hZ (c_L_unapplied_k l hfl D cI cZ a H.size (B) (R) (E) (td) (late) (e3)) cw_unapplied_k (by decide) rfl rfl hl.1 rfl (Nat.le_of_ble_eq_true rfl) dL_refuses_582 ⟨Nat.le_of_ble_eq_true rfl, Nat.le_of_ble_eq_true rfl⟩ (fun H locs hP hD hS => ?_)
          refine W.widen (k := 36) (n := 216) (Nat.le_of_ble_eq_true rfl) (Nat.le_of_ble_eq_true rfl) ?_
          refine lv_ldc (v := (-2000000001)) hx hb hown (hts (.constant RL 15 (-2000000001)) kL_refuses_15) dL_refuses_585 ?_
          refine lv_icmp_ne (tgt := 604) hx hb dL_refuses_587 (by decide) (fun c587 => ?_) (fun c587 => ?_)
          · -- 587 taken
            exact absurd rfl c587
          · -- 587 on
            refine lv_aload_n hx hb dL_refuses_590 rfl (lv_at hl 0 rfl) ?_
            refine lv_iload_n hx hb dL_refuses_591 rfl (lv_at hl 4 rfl) ?_
            refine zkW (v := (-2000000001)) kCA F (zwCA hP hD hS hA) hK hX hZ (c_L_bounced_k l hfl D cI cZ a H.size (B) (R) (E) (td) (late) (e3)) cw_bounced_k (by decide) rfl rfl hl.1 rfl (Nat.le_of_ble_eq_true rfl) dL_refuses_592 ⟨Nat.le_of_ble_eq_true rfl, Nat.le_of_ble_eq_true rfl⟩ (fun H locs hP hD hS => ?_)
            refine W.widen (k := 37) (n := 222) (Nat.le_of_ble_eq_true rfl) (Nat.le_of_ble_eq_true rfl) ?_
            refine lv_ldc (v := (-2000000001)) hx hb hown (hts (.constant RL 15 (-2000000001)) kL_refuses_15) dL_refuses_595 ?_
            refine lv_icmp_ne (tgt := 604) hx hb dL_refuses_597 (by decide) (fun c597 => ?_) (fun c597 => ?_)
            · -- 597 taken
              exact absurd rfl c597
            · -- 597 on
              refine lv_iconst (v := nI (1)) hx hb dL_refuses_600 (by decide) ?_
              refine lv_goto (tgt := 605) hx hb dL_refuses_601 (by decide) ?_
              exact k605  _ _ _ hP hD hS (lv_sub hl [0, 1, 2, 3, 4, 5] rfl)
set_option maxHeartbeats 8000000 in
set_option maxRecDepth 100000 in
theorem rf_k {p : Program} {l : Launch} {e : Env} {s : State} {m : MethodId} {args : Array Value} {below : List Frame} {meth : Method} {c : Code} {Q : State → Prop} {D : va_G} {A : Nat → Prop} {cI cZ : ClassId} {a : Nat → Nat} {B R E : Nat → Nat → Int32} {td : Int32} {H : Heap} {locs : List Loc} {ls : Array Slot} (n : Nat) (q : Nat) (x : Nat) (none : Int32) (late : Int32) (high : Int32) (F : CallFix p m c cL_refuses 8 s args wsL_refuses RL) (hK : va_K D vwCl (tyl cI cZ) s) (hA : ∀ q : Nat, s.heap.size ≤ q → A q) (hX : ExB s) (hZ : ExZ A s s.heap) (hfl : l.stackTraces = false) (hB : B 11 0 = nI n) (hn : n ≤ 40) (hR : R 8 0 = nI q) (hq : q ≤ 30) (hx9 : x < 9973) (I5 : ∀ j, j < q → R 5 j = 0 ∨ R 5 j = 1) (I0 : ∀ j, j < q → R 0 j = -1 ∨ ¬ R 0 j < 0) (I3 : ∀ j, j < q → ¬ R 3 j < 0) (I8 : ∀ i, i < n → ¬ B 8 i < 0) (e1 : none < 0 ∨ ¬ none < 8) (e2 : ¬ none = -1) (e3 : late < 0 ∨ ¬ late < R 8 0) (e4 : high < 0 ∨ ¬ high < B 11 0) (hP : va_P D vwCl (wCA a cI cZ B R E (td)) H) (hD : va_D A (wCA a cI cZ B R E (td))) (hS : va_S A s.heap H locs) (hl : lv_has ls 8 [(0, .ref (a 0)), (1, .int (nI (x))), (5, .int (nI (1))), (4, .int (high)), (3, .int (late)), (2, .int (none))])
    (k665 : ∀ (H : Heap) (locs : List Loc) (ls : Array Slot), va_P D vwCl (wCA a cI cZ B R E (td)) H → va_D A (wCA a cI cZ B R E (td)) → va_S A s.heap H locs → lv_has ls 8 [(0, .ref (a 0)), (1, .int (nI (x))), (5, .int (nI (1))), (4, .int (high)), (3, .int (late)), (2, .int (none))] → W p l e ({ frames := 9, cells := 44, slots := 264, locals := 184 } : Room) s m args below meth c H locs 38 228 Q (F0 m 665 ls [])) :
    W p l e ({ frames := 9, cells := 44, slots := 264, locals := 184 } : Room) s m args below meth c H locs 37 222 Q (F0 m 605 ls [.int (nI (1))]) := by
  obtain ⟨hx, hb, hml, hown, hts⟩ := id F
  have cv_bills : CallW ({ frames := 9, cells := 44, slots := 264, locals := 184 } : Room) s args RL RX3 90 yX3_bills cX3_bills 1 (some .int) wsX3_bills ({ frames := 0, cells := 0, slots := 0, locals := 0 } : Room) 0 0 0 := cwV 0 hts gL_refuses_X3_bills rfl rfl rfl (by decide +kernel) ⟨Nat.le_of_ble_eq_true rfl, Nat.le_of_ble_eq_true rfl⟩
  have cw_disputed_0 : vx_CSW ({ frames := 9, cells := 44, slots := 264, locals := 184 } : Room) s args RL 132 yL_disputed cL_disputed 3 (some .int) [(0, 5, 6, 13)] wsL_disputed ({ frames := 2, cells := 0, slots := 0, locals := 42 } : Room) 0 0 2 := vx_cwSW 2 hts gL_refuses_L_disputed rfl rfl rfl (by decide +kernel) ⟨Nat.le_of_ble_eq_true rfl, Nat.le_of_ble_eq_true rfl⟩
  have cw_settles_k : vx_CSW ({ frames := 9, cells := 44, slots := 264, locals := 184 } : Room) s args RL 117 yL_settles cL_settles 4 (some .int) [(0, 6, 7, 13), (0, 6, 11, 19)] wsL_settles ({ frames := 8, cells := 1, slots := 6, locals := 133 } : Room) 1 6 3 := vx_cwSW 3 hts gL_refuses_L_settles rfl rfl rfl (by decide +kernel) ⟨Nat.le_of_ble_eq_true rfl, Nat.le_of_ble_eq_true rfl⟩
  refine lv_istore (lv' := [(5, .int (nI (1))), (0, .ref (a 0)), (1, .int (nI (x))), (4, .int (high)), (3, .int (late)), (2, .int (none))]) hx hb dL_refuses_605 hl (by decide) rfl (fun ls hl => ?_)
  refine lv_iload hx hb dL_refuses_607 (lv_at hl 0 rfl) ?_
  refine lv_if_eq (tgt := 665) hx hb dL_refuses_609 (by decide) (fun c609 => ?_) (fun c609 => ?_)
  · -- 609 taken
    exact absurd c609 (by decide)
  · -- 609 on
    rw [show (0 : Int32) = nI 0 from rfl] at c609
    rw [nI_eq (by omega) (by omega)] at c609
    refine lv_aload_n hx hb dL_refuses_612 rfl (lv_at hl 1 rfl) ?_
    refine zkV (v := B 11 0) kCA (ci := 3) (q0 := 0) F (zwCA hP hD hS hA) hK (c_X3_bills l D cI cZ a H.size (B) (R) (E) (td) ) cv_bills rfl rfl (by decide) rfl rfl hl.1 rfl (Nat.le_of_ble_eq_true rfl) dL_refuses_613 ⟨Nat.le_of_ble_eq_true rfl, Nat.le_of_ble_eq_true rfl⟩ (fun H locs hP hD hS => ?_)
    rw [hB]
    refine lv_if_le (tgt := 665) hx hb dL_refuses_616 (by decide) (fun c616 => ?_) (fun c616 => ?_)
    · -- 616 taken
      rw [show (0 : Int32) = nI 0 from rfl] at c616
      rw [nI_leI (by omega) (by omega)] at c616
      refine W.widen (k := 38) (n := 228) (Nat.le_of_ble_eq_true rfl) (Nat.le_of_ble_eq_true rfl) ?_
      exact k665  _ _ _ hP hD hS (lv_sub hl [1, 2, 0, 3, 4, 5] rfl)
    · -- 616 on
      rw [show (0 : Int32) = nI 0 from rfl] at c616
      rw [nI_leI (by omega) (by omega)] at c616
      have hn0 : 0 < n := by omega
      have h6 : x % n < n := Nat.mod_lt _ hn0
      refine lv_iload_n hx hb dL_refuses_619 rfl (lv_at hl 2 rfl) ?_
      refine lv_aload_n hx hb dL_refuses_620 rfl (lv_at hl 1 rfl) ?_
      refine zkV (v := B 11 0) kCA (ci := 3) (q0 := 0) F (zwCA hP hD hS hA) hK (c_X3_bills l D cI cZ a H.size (B) (R) (E) (td) ) cv_bills rfl rfl (by decide) rfl rfl hl.1 rfl (Nat.le_of_ble_eq_true rfl) dL_refuses_621 ⟨Nat.le_of_ble_eq_true rfl, Nat.le_of_ble_eq_true rfl⟩ (fun H locs hP hD hS => ?_)
      rw [hB]
      refine lv_rem (x := x) (d := n) hx hb rfl rfl dL_refuses_624 (by omega) (by omega) (by omega) ?_
      refine lv_istore (lv' := [(6, .int (nI (x % n))), (5, .int (nI (1))), (0, .ref (a 0)), (1, .int (nI (x))), (4, .int (high)), (3, .int (late)), (2, .int (none))]) hx hb dL_refuses_625 hl (by decide) rfl (fun ls hl => ?_)
      refine lv_aload_n hx hb dL_refuses_627 rfl (lv_at hl 2 rfl) ?_
      refine lv_iload hx hb dL_refuses_628 (lv_at hl 0 rfl) ?_
      refine zkW (v := B 8 (x % n)) kCA F (zwCA hP hD hS hA) hK hX hZ (c_L_disputed_0 l D cI cZ a H.size (B) (R) (E) (td) (n) (x % n) (by first | assumption | omega) (by first | assumption | omega) (by first | assumption | omega)) cw_disputed_0 (by decide) rfl rfl hl.1 rfl (Nat.le_of_ble_eq_true rfl) dL_refuses_630 ⟨Nat.le_of_ble_eq_true rfl, Nat.le_of_ble_eq_true rfl⟩ (fun H locs hP hD hS => ?_)
      refine lv_if_gt (tgt := 658) hx hb dL_refuses_633 (by decide) (fun c633 => ?_) (fun c633 => ?_)
      · -- 633 taken
        refine lv_iconst (v := nI (1)) hx hb dL_refuses_658 (by decide) ?_
        refine lv_goto (tgt := 663) hx hb dL_refuses_659 (by decide) ?_
        refine lv_istore (lv' := [(5, .int (nI (1))), (6, .int (nI (x % n))), (0, .ref (a 0)), (1, .int (nI (x))), (4, .int (high)), (3, .int (late)), (2, .int (none))]) hx hb dL_refuses_663 hl (by decide) rfl (fun ls hl => ?_)
        refine W.widen (k := 38) (n := 228) (Nat.le_of_ble_eq_true rfl) (Nat.le_of_ble_eq_true rfl) ?_
        exact k665  _ _ _ hP hD hS (lv_sub hl [2, 3, 0, 4, 5, 6] rfl)
      · -- 633 on
        have h8 : B 8 (x % n) = 0 := Int32.toInt_inj.mp (by
          have g1 := I8 (x % n) h6
          have g2 := c633
          rw [Int32.lt_iff_toInt_lt] at g1 g2
          have z0 : (0 : Int32).toInt = 0 := by decide
          omega)
        refine lv_aload_n hx hb dL_refuses_636 rfl (lv_at hl 2 rfl) ?_
        refine lv_iload hx hb dL_refuses_637 (lv_at hl 0 rfl) ?_
        refine lv_iload_n hx hb dL_refuses_639 rfl (lv_at hl 3 rfl) ?_
        refine lv_iconst (v := nI (2)) hx hb dL_refuses_640 (by decide) ?_
        refine lv_rem (x := x) (d := 2) hx hb rfl rfl dL_refuses_641 (by omega) (by omega) (by omega) ?_
        refine lv_if_ne (tgt := 649) hx hb dL_refuses_642 (by decide) (fun c642 => ?_) (fun c642 => ?_)
        · -- 642 taken
          rw [show (0 : Int32) = nI 0 from rfl] at c642
          rw [nI_eq (by omega) (by omega)] at c642
          refine lv_iconst (v := nI (0)) hx hb dL_refuses_649 (by decide) ?_
          refine zkW (v := (-2000000003)) kCA F (zwCA hP hD hS hA) hK hX hZ (c_L_settles_k l hfl D cI cZ a H.size (B) (R) (E) (td) (n) (nI (x % n)) (nI (0)) (2) ((-2000000003)) (by first | assumption | omega) (by first | assumption | omega) (sk2 hB hn h6 h8) (by decide) rfl) cw_settles_k (by decide) rfl rfl hl.1 rfl (Nat.le_of_ble_eq_true rfl) dL_refuses_650 ⟨Nat.le_of_ble_eq_true rfl, Nat.le_of_ble_eq_true rfl⟩ (fun H locs hP hD hS => ?_)
          refine W.widen (k := 38) (n := 228) (Nat.le_of_ble_eq_true rfl) (Nat.le_of_ble_eq_true rfl) ?_
          refine lv_ldc (v := (-2000000003)) hx hb hown (hts (.constant RL 21 (-2000000003)) kL_refuses_21) dL_refuses_653 ?_
          refine lv_icmp_ne (tgt := 662) hx hb dL_refuses_655 (by decide) (fun c655 => ?_) (fun c655 => ?_)
          · -- 655 taken
            exact absurd rfl c655
          · -- 655 on
            refine lv_iconst (v := nI (1)) hx hb dL_refuses_658 (by decide) ?_
            refine lv_goto (tgt := 663) hx hb dL_refuses_659 (by decide) ?_
            refine lv_istore (lv' := [(5, .int (nI (1))), (6, .int (nI (x % n))), (0, .ref (a 0)), (1, .int (nI (x))), (4, .int (high)), (3, .int (late)), (2, .int (none))]) hx hb dL_refuses_663 hl (by decide) rfl (fun ls hl => ?_)
            exact k665  _ _ _ hP hD hS (lv_sub hl [2, 3, 0, 4, 5, 6] rfl)
        · -- 642 on
          rw [show (0 : Int32) = nI 0 from rfl] at c642
          rw [nI_eq (by omega) (by omega)] at c642
          refine lv_iconst (v := nI (1)) hx hb dL_refuses_645 (by decide) ?_
          refine lv_goto (tgt := 650) hx hb dL_refuses_646 (by decide) ?_
          refine zkW (v := (-2000000003)) kCA F (zwCA hP hD hS hA) hK hX hZ (c_L_settles_k l hfl D cI cZ a H.size (B) (R) (E) (td) (n) (nI (x % n)) (nI (1)) (2) ((-2000000003)) (by first | assumption | omega) (by first | assumption | omega) (sk2 hB hn h6 h8) (by decide) rfl) cw_settles_k (by decide) rfl rfl hl.1 rfl (Nat.le_of_ble_eq_true rfl) dL_refuses_650 ⟨Nat.le_of_ble_eq_true rfl, Nat.le_of_ble_eq_true rfl⟩ (fun H locs hP hD hS => ?_)
          refine W.widen (k := 38) (n := 228) (Nat.le_of_ble_eq_true rfl) (Nat.le_of_ble_eq_true rfl) ?_
          refine lv_ldc (v := (-2000000003)) hx hb hown (hts (.constant RL 21 (-2000000003)) kL_refuses_21) dL_refuses_653 ?_
          refine lv_icmp_ne (tgt := 662) hx hb dL_refuses_655 (by decide) (fun c655 => ?_) (fun c655 => ?_)
          · -- 655 taken
            exact absurd rfl c655
          · -- 655 on
            refine lv_iconst (v := nI (1)) hx hb dL_refuses_658 (by decide) ?_
            refine lv_goto (tgt := 663) hx hb dL_refuses_659 (by decide) ?_
            refine lv_istore (lv' := [(5, .int (nI (1))), (6, .int (nI (x % n))), (0, .ref (a 0)), (1, .int (nI (x))), (4, .int (high)), (3, .int (late)), (2, .int (none))]) hx hb dL_refuses_663 hl (by decide) rfl (fun ls hl => ?_)
            exact k665  _ _ _ hP hD hS (lv_sub hl [2, 3, 0, 4, 5, 6] rfl)
set_option maxHeartbeats 8000000 in
set_option maxRecDepth 100000 in
theorem rf_l {p : Program} {l : Launch} {e : Env} {s : State} {m : MethodId} {args : Array Value} {below : List Frame} {meth : Method} {c : Code} {Q : State → Prop} {D : va_G} {A : Nat → Prop} {cI cZ : ClassId} {a : Nat → Nat} {B R E : Nat → Nat → Int32} {td : Int32} {H : Heap} {locs : List Loc} {ls : Array Slot} (n : Nat) (q : Nat) (x : Nat) (none : Int32) (late : Int32) (high : Int32) (F : CallFix p m c cL_refuses 8 s args wsL_refuses RL) (hK : va_K D vwCl (tyl cI cZ) s) (hA : ∀ q : Nat, s.heap.size ≤ q → A q) (hX : ExB s) (hZ : ExZ A s s.heap) (hfl : l.stackTraces = false) (hB : B 11 0 = nI n) (hn : n ≤ 40) (hR : R 8 0 = nI q) (hq : q ≤ 30) (hx9 : x < 9973) (I5 : ∀ j, j < q → R 5 j = 0 ∨ R 5 j = 1) (I0 : ∀ j, j < q → R 0 j = -1 ∨ ¬ R 0 j < 0) (I3 : ∀ j, j < q → ¬ R 3 j < 0) (I8 : ∀ i, i < n → ¬ B 8 i < 0) (e1 : none < 0 ∨ ¬ none < 8) (e2 : ¬ none = -1) (e3 : late < 0 ∨ ¬ late < R 8 0) (e4 : high < 0 ∨ ¬ high < B 11 0) (hP : va_P D vwCl (wCA a cI cZ B R E (td)) H) (hD : va_D A (wCA a cI cZ B R E (td))) (hS : va_S A s.heap H locs) (hl : lv_has ls 8 [(0, .ref (a 0)), (1, .int (nI (x))), (5, .int (nI (1))), (4, .int (high)), (3, .int (late)), (2, .int (none))])
    (k824 : ∀ (H : Heap) (locs : List Loc) (ls : Array Slot), va_P D vwCl (wCA a cI cZ B R E (td)) H → va_D A (wCA a cI cZ B R E (td)) → va_S A s.heap H locs → lv_has ls 8 [(0, .ref (a 0)), (1, .int (nI (x))), (5, .int (nI (1))), (4, .int (high)), (3, .int (late)), (2, .int (none))] → W p l e ({ frames := 9, cells := 44, slots := 264, locals := 184 } : Room) s m args below meth c H locs 44 264 Q (F0 m 824 ls []))
    (k702 : ∀ (gn : Nat) (h6 : x % q < q) (hg : (gn = 1 ∧ R 5 (x % q) = 1) ∨ (gn = 0 ∧ R 5 (x % q) = 0)) (H : Heap) (locs : List Loc) (ls : Array Slot), va_P D vwCl (wCA a cI cZ B R E (td)) H → va_D A (wCA a cI cZ B R E (td)) → va_S A s.heap H locs → lv_has ls 8 [(0, .ref (a 0)), (1, .int (nI (x))), (7, .int (nI (gn))), (6, .int (nI (x % q))), (5, .int (nI (1))), (4, .int (high)), (3, .int (late)), (2, .int (none))] → W p l e ({ frames := 9, cells := 44, slots := 264, locals := 184 } : Room) s m args below meth c H locs 38 228 Q (F0 m 702 ls [])) :
    W p l e ({ frames := 9, cells := 44, slots := 264, locals := 184 } : Room) s m args below meth c H locs 38 228 Q (F0 m 665 ls []) := by
  obtain ⟨hx, hb, hml, hown, hts⟩ := id F
  have cv_receipts : CallW ({ frames := 9, cells := 44, slots := 264, locals := 184 } : Room) s args RL RX3 86 yX3_receipts cX3_receipts 1 (some .int) wsX3_receipts ({ frames := 0, cells := 0, slots := 0, locals := 0 } : Room) 0 0 0 := cwV 0 hts gL_refuses_X3_receipts rfl rfl rfl (by decide +kernel) ⟨Nat.le_of_ble_eq_true rfl, Nat.le_of_ble_eq_true rfl⟩
  have cw_bounced_0 : vx_CSW ({ frames := 9, cells := 44, slots := 264, locals := 184 } : Room) s args RL 148 yL_bounced cL_bounced 3 (some .int) [(0, 13, 14, 13)] wsL_bounced ({ frames := 2, cells := 0, slots := 0, locals := 42 } : Room) 0 0 2 := vx_cwSW 2 hts gL_refuses_L_bounced rfl rfl rfl (by decide +kernel) ⟨Nat.le_of_ble_eq_true rfl, Nat.le_of_ble_eq_true rfl⟩
  refine lv_iload hx hb dL_refuses_665 (lv_at hl 2 rfl) ?_
  refine lv_if_eq (tgt := 824) hx hb dL_refuses_667 (by decide) (fun c667 => ?_) (fun c667 => ?_)
  · -- 667 taken
    exact absurd c667 (by decide)
  · -- 667 on
    rw [show (0 : Int32) = nI 0 from rfl] at c667
    rw [nI_eq (by omega) (by omega)] at c667
    refine lv_aload_n hx hb dL_refuses_670 rfl (lv_at hl 0 rfl) ?_
    refine zkV (v := R 8 0) kCA (ci := 3) (q0 := 0) F (zwCA hP hD hS hA) hK (c_X3_receipts l D cI cZ a H.size (B) (R) (E) (td) ) cv_receipts rfl rfl (by decide) rfl rfl hl.1 rfl (Nat.le_of_ble_eq_true rfl) dL_refuses_671 ⟨Nat.le_of_ble_eq_true rfl, Nat.le_of_ble_eq_true rfl⟩ (fun H locs hP hD hS => ?_)
    rw [hR]
    refine lv_if_le (tgt := 824) hx hb dL_refuses_674 (by decide) (fun c674 => ?_) (fun c674 => ?_)
    · -- 674 taken
      rw [show (0 : Int32) = nI 0 from rfl] at c674
      rw [nI_leI (by omega) (by omega)] at c674
      refine W.widen (k := 44) (n := 264) (Nat.le_of_ble_eq_true rfl) (Nat.le_of_ble_eq_true rfl) ?_
      exact k824  _ _ _ hP hD hS (lv_sub hl [0, 1, 2, 3, 4, 5] rfl)
    · -- 674 on
      rw [show (0 : Int32) = nI 0 from rfl] at c674
      rw [nI_leI (by omega) (by omega)] at c674
      have hq0 : 0 < q := by omega
      have h6 : x % q < q := Nat.mod_lt _ hq0
      refine lv_iload_n hx hb dL_refuses_677 rfl (lv_at hl 1 rfl) ?_
      refine lv_aload_n hx hb dL_refuses_678 rfl (lv_at hl 0 rfl) ?_
      refine zkV (v := R 8 0) kCA (ci := 3) (q0 := 0) F (zwCA hP hD hS hA) hK (c_X3_receipts l D cI cZ a H.size (B) (R) (E) (td) ) cv_receipts rfl rfl (by decide) rfl rfl hl.1 rfl (Nat.le_of_ble_eq_true rfl) dL_refuses_679 ⟨Nat.le_of_ble_eq_true rfl, Nat.le_of_ble_eq_true rfl⟩ (fun H locs hP hD hS => ?_)
      rw [hR]
      refine lv_rem (x := x) (d := q) hx hb rfl rfl dL_refuses_682 (by omega) (by omega) (by omega) ?_
      refine lv_istore (lv' := [(6, .int (nI (x % q))), (0, .ref (a 0)), (1, .int (nI (x))), (5, .int (nI (1))), (4, .int (high)), (3, .int (late)), (2, .int (none))]) hx hb dL_refuses_683 hl (by decide) rfl (fun ls hl => ?_)
      refine lv_aload_n hx hb dL_refuses_685 rfl (lv_at hl 1 rfl) ?_
      refine lv_iload hx hb dL_refuses_686 (lv_at hl 0 rfl) ?_
      refine zkW (v := R 5 (x % q)) kCA F (zwCA hP hD hS hA) hK hX hZ (c_L_bounced_0 l D cI cZ a H.size (B) (R) (E) (td) (q) (x % q) (by first | assumption | omega) (by first | assumption | omega) (by first | assumption | omega) (I5 _ h6)) cw_bounced_0 (by decide) rfl rfl hl.1 rfl (Nat.le_of_ble_eq_true rfl) dL_refuses_688 ⟨Nat.le_of_ble_eq_true rfl, Nat.le_of_ble_eq_true rfl⟩ (fun H locs hP hD hS => ?_)
      refine lv_iconst (v := nI (1)) hx hb dL_refuses_691 (by decide) ?_
      refine lv_icmp_ne (tgt := 699) hx hb dL_refuses_692 (by decide) (fun c692 => ?_) (fun c692 => ?_)
      · -- 692 taken
        refine lv_iconst (v := nI (0)) hx hb dL_refuses_699 (by decide) ?_
        refine lv_istore (lv' := [(7, .int (nI (0))), (6, .int (nI (x % q))), (0, .ref (a 0)), (1, .int (nI (x))), (5, .int (nI (1))), (4, .int (high)), (3, .int (late)), (2, .int (none))]) hx hb dL_refuses_700 hl (by decide) rfl (fun ls hl => ?_)
        exact k702 0 h6 (Or.inr ⟨rfl, (I5 _ h6).resolve_right (fun z => c692 z)⟩) _ _ _ hP hD hS (lv_sub hl [2, 3, 0, 1, 4, 5, 6, 7] rfl)
      · -- 692 on
        refine lv_iconst (v := nI (1)) hx hb dL_refuses_695 (by decide) ?_
        refine lv_goto (tgt := 700) hx hb dL_refuses_696 (by decide) ?_
        refine lv_istore (lv' := [(7, .int (nI (1))), (6, .int (nI (x % q))), (0, .ref (a 0)), (1, .int (nI (x))), (5, .int (nI (1))), (4, .int (high)), (3, .int (late)), (2, .int (none))]) hx hb dL_refuses_700 hl (by decide) rfl (fun ls hl => ?_)
        exact k702 1 h6 (Or.inl ⟨rfl, c692⟩) _ _ _ hP hD hS (lv_sub hl [2, 3, 0, 1, 4, 5, 6, 7] rfl)
set_option maxHeartbeats 8000000 in
set_option maxRecDepth 100000 in
theorem rf_m {p : Program} {l : Launch} {e : Env} {s : State} {m : MethodId} {args : Array Value} {below : List Frame} {meth : Method} {c : Code} {Q : State → Prop} {D : va_G} {A : Nat → Prop} {cI cZ : ClassId} {a : Nat → Nat} {B R E : Nat → Nat → Int32} {td : Int32} {H : Heap} {locs : List Loc} {ls : Array Slot} (n : Nat) (q : Nat) (x : Nat) (none : Int32) (late : Int32) (high : Int32) (gn : Nat) (F : CallFix p m c cL_refuses 8 s args wsL_refuses RL) (hK : va_K D vwCl (tyl cI cZ) s) (hA : ∀ q : Nat, s.heap.size ≤ q → A q) (hX : ExB s) (hZ : ExZ A s s.heap) (hfl : l.stackTraces = false) (hB : B 11 0 = nI n) (hn : n ≤ 40) (hR : R 8 0 = nI q) (hq : q ≤ 30) (hx9 : x < 9973) (I5 : ∀ j, j < q → R 5 j = 0 ∨ R 5 j = 1) (I0 : ∀ j, j < q → R 0 j = -1 ∨ ¬ R 0 j < 0) (I3 : ∀ j, j < q → ¬ R 3 j < 0) (I8 : ∀ i, i < n → ¬ B 8 i < 0) (e1 : none < 0 ∨ ¬ none < 8) (e2 : ¬ none = -1) (e3 : late < 0 ∨ ¬ late < R 8 0) (e4 : high < 0 ∨ ¬ high < B 11 0) (h6 : x % q < q) (hg : (gn = 1 ∧ R 5 (x % q) = 1) ∨ (gn = 0 ∧ R 5 (x % q) = 0)) (hP : va_P D vwCl (wCA a cI cZ B R E (td)) H) (hD : va_D A (wCA a cI cZ B R E (td))) (hS : va_S A s.heap H locs) (hl : lv_has ls 8 [(0, .ref (a 0)), (1, .int (nI (x))), (7, .int (nI (gn))), (6, .int (nI (x % q))), (5, .int (nI (1))), (4, .int (high)), (3, .int (late)), (2, .int (none))])
    (k756 : ∀ (H : Heap) (locs : List Loc) (ls : Array Slot), va_P D vwCl (wCA a cI cZ B R E (td)) H → va_D A (wCA a cI cZ B R E (td)) → va_S A s.heap H locs → lv_has ls 8 [(0, .ref (a 0)), (1, .int (nI (x))), (7, .int (nI (gn))), (6, .int (nI (x % q))), (5, .int (nI (1))), (4, .int (high)), (3, .int (late)), (2, .int (none))] → W p l e ({ frames := 9, cells := 44, slots := 264, locals := 184 } : Room) s m args below meth c H locs 41 246 Q (F0 m 756 ls [])) :
    W p l e ({ frames := 9, cells := 44, slots := 264, locals := 184 } : Room) s m args below meth c H locs 38 228 Q (F0 m 702 ls []) := by
  obtain ⟨hx, hb, hml, hown, hts⟩ := id F
  have cw_assigns_k : vx_CSW ({ frames := 9, cells := 44, slots := 264, locals := 184 } : Room) s args RL 103 yL_assigns cL_assigns 4 (some .int) [(0, 6, 7, 13), (0, 6, 11, 19)] wsL_assigns ({ frames := 8, cells := 1, slots := 6, locals := 158 } : Room) 1 6 3 := vx_cwSW 3 hts gL_refuses_L_assigns rfl rfl rfl (by decide +kernel) ⟨Nat.le_of_ble_eq_true rfl, Nat.le_of_ble_eq_true rfl⟩
  have cw_appliedTo_k : vx_CSW ({ frames := 9, cells := 44, slots := 264, locals := 184 } : Room) s args RL 144 yL_appliedTo cL_appliedTo 4 (some .int) [(0, 6, 7, 13)] wsL_appliedTo ({ frames := 8, cells := 1, slots := 6, locals := 133 } : Room) 1 6 3 := vx_cwSW 3 hts gL_refuses_L_appliedTo rfl rfl rfl (by decide +kernel) ⟨Nat.le_of_ble_eq_true rfl, Nat.le_of_ble_eq_true rfl⟩
  have cw_customer_0 : vx_CSW ({ frames := 9, cells := 44, slots := 264, locals := 184 } : Room) s args RL 141 yL_customer cL_customer 3 (some .int) [(0, 5, 6, 13)] wsL_customer ({ frames := 2, cells := 0, slots := 0, locals := 42 } : Room) 0 0 2 := vx_cwSW 2 hts gL_refuses_L_customer rfl rfl rfl (by decide +kernel) ⟨Nat.le_of_ble_eq_true rfl, Nat.le_of_ble_eq_true rfl⟩
  refine lv_aload_n hx hb dL_refuses_702 rfl (lv_at hl 0 rfl) ?_
  refine lv_iload hx hb dL_refuses_703 (lv_at hl 3 rfl) ?_
  refine lv_iload_n hx hb dL_refuses_705 rfl (lv_at hl 7 rfl) ?_
  refine zkW (v := (-2000000001)) kCA F (zwCA hP hD hS hA) hK hX hZ (c_L_assigns_k l hfl D cI cZ a H.size (B) (R) (E) (td) (q) (nI (x % q)) (none) (1) ((-2000000001)) (by first | assumption | omega) (by first | assumption | omega) (ak1' e1) (by decide) rfl) cw_assigns_k (by decide) rfl rfl hl.1 rfl (Nat.le_of_ble_eq_true rfl) dL_refuses_706 ⟨Nat.le_of_ble_eq_true rfl, Nat.le_of_ble_eq_true rfl⟩ (fun H locs hP hD hS => ?_)
  refine W.widen (k := 39) (n := 234) (Nat.le_of_ble_eq_true rfl) (Nat.le_of_ble_eq_true rfl) ?_
  refine lv_ldc (v := (-2000000001)) hx hb hown (hts (.constant RL 15 (-2000000001)) kL_refuses_15) dL_refuses_709 ?_
  refine lv_icmp_ne (tgt := 821) hx hb dL_refuses_711 (by decide) (fun c711 => ?_) (fun c711 => ?_)
  · -- 711 taken
    exact absurd rfl c711
  · -- 711 on
    refine lv_aload_n hx hb dL_refuses_714 rfl (lv_at hl 0 rfl) ?_
    refine lv_iload hx hb dL_refuses_715 (lv_at hl 3 rfl) ?_
    refine lv_iload hx hb dL_refuses_717 (lv_at hl 5 rfl) ?_
    refine zkW (v := (-2000000001)) kCA F (zwCA hP hD hS hA) hK hX hZ (c_L_appliedTo_k l hfl D cI cZ a H.size (B) (R) (E) (td) (nI (x % q)) (high) (Or.inr e4)) cw_appliedTo_k (by decide) rfl rfl hl.1 rfl (Nat.le_of_ble_eq_true rfl) dL_refuses_719 ⟨Nat.le_of_ble_eq_true rfl, Nat.le_of_ble_eq_true rfl⟩ (fun H locs hP hD hS => ?_)
    refine W.widen (k := 40) (n := 240) (Nat.le_of_ble_eq_true rfl) (Nat.le_of_ble_eq_true rfl) ?_
    refine lv_ldc (v := (-2000000001)) hx hb hown (hts (.constant RL 15 (-2000000001)) kL_refuses_15) dL_refuses_722 ?_
    refine lv_icmp_ne (tgt := 821) hx hb dL_refuses_724 (by decide) (fun c724 => ?_) (fun c724 => ?_)
    · -- 724 taken
      exact absurd rfl c724
    · -- 724 on
      refine lv_aload_n hx hb dL_refuses_727 rfl (lv_at hl 0 rfl) ?_
      refine lv_iload hx hb dL_refuses_728 (lv_at hl 3 rfl) ?_
      refine zkW (v := R 0 (x % q)) kCA F (zwCA hP hD hS hA) hK hX hZ (c_L_customer_0 l D cI cZ a H.size (B) (R) (E) (td) (q) (x % q) (by first | assumption | omega) (by first | assumption | omega) (by first | assumption | omega)) cw_customer_0 (by decide) rfl rfl hl.1 rfl (Nat.le_of_ble_eq_true rfl) dL_refuses_730 ⟨Nat.le_of_ble_eq_true rfl, Nat.le_of_ble_eq_true rfl⟩ (fun H locs hP hD hS => ?_)
      refine lv_if_ge (tgt := 741) hx hb dL_refuses_733 (by decide) (fun c733 => ?_) (fun c733 => ?_)
      · -- 733 taken
        have ua : ¬ R 5 (x % q) = 0 ∨ ¬ R 0 (x % q) = -1 := Or.inr (fun z => by rw [z] at c733; exact absurd c733 (by decide))
        refine lv_aload_n hx hb dL_refuses_741 rfl (lv_at hl 0 rfl) ?_
        refine lv_iload hx hb dL_refuses_742 (lv_at hl 3 rfl) ?_
        refine lv_iload_n hx hb dL_refuses_744 rfl (lv_at hl 1 rfl) ?_
        refine lv_bipush (v := nI (8)) hx hb dL_refuses_745 (by decide) ?_
        refine lv_rem (x := x) (d := 8) hx hb rfl rfl dL_refuses_747 (by omega) (by omega) (by omega) ?_
        refine zkW (v := (-2000000003)) kCA F (zwCA hP hD hS hA) hK hX hZ (c_L_assigns_k l hfl D cI cZ a H.size (B) (R) (E) (td) (q) (nI (x % q)) (nI (x % 8)) (2) ((-2000000003)) (by first | assumption | omega) (by first | assumption | omega) (ak2 hR hq h6 (m8 x).1 (m8 x).2 ua) (by decide) rfl) cw_assigns_k (by decide) rfl rfl hl.1 rfl (Nat.le_of_ble_eq_true rfl) dL_refuses_748 ⟨Nat.le_of_ble_eq_true rfl, Nat.le_of_ble_eq_true rfl⟩ (fun H locs hP hD hS => ?_)
        refine W.widen (k := 41) (n := 246) (Nat.le_of_ble_eq_true rfl) (Nat.le_of_ble_eq_true rfl) ?_
        refine lv_ldc (v := (-2000000003)) hx hb hown (hts (.constant RL 21 (-2000000003)) kL_refuses_21) dL_refuses_751 ?_
        refine lv_icmp_ne (tgt := 821) hx hb dL_refuses_753 (by decide) (fun c753 => ?_) (fun c753 => ?_)
        · -- 753 taken
          exact absurd rfl c753
        · -- 753 on
          exact k756  _ _ _ hP hD hS (lv_sub hl [0, 1, 2, 3, 4, 5, 6, 7] rfl)
      · -- 733 on
        refine lv_iload hx hb dL_refuses_736 (lv_at hl 2 rfl) ?_
        refine lv_if_eq (tgt := 756) hx hb dL_refuses_738 (by decide) (fun c738 => ?_) (fun c738 => ?_)
        · -- 738 taken
          rw [show (0 : Int32) = nI 0 from rfl] at c738
          rw [nI_eq (by omega) (by omega)] at c738
          refine W.widen (k := 41) (n := 246) (Nat.le_of_ble_eq_true rfl) (Nat.le_of_ble_eq_true rfl) ?_
          exact k756  _ _ _ hP hD hS (lv_sub hl [0, 1, 2, 3, 4, 5, 6, 7] rfl)
        · -- 738 on
          rw [show (0 : Int32) = nI 0 from rfl] at c738
          rw [nI_eq (by omega) (by omega)] at c738
          have ua : ¬ R 5 (x % q) = 0 ∨ ¬ R 0 (x % q) = -1 := Or.inl (fun z => hg.elim (fun g => absurd (g.2.symm.trans z) (by decide)) (fun g => absurd g.1 (by omega)))
          refine lv_aload_n hx hb dL_refuses_741 rfl (lv_at hl 0 rfl) ?_
          refine lv_iload hx hb dL_refuses_742 (lv_at hl 3 rfl) ?_
          refine lv_iload_n hx hb dL_refuses_744 rfl (lv_at hl 1 rfl) ?_
          refine lv_bipush (v := nI (8)) hx hb dL_refuses_745 (by decide) ?_
          refine lv_rem (x := x) (d := 8) hx hb rfl rfl dL_refuses_747 (by omega) (by omega) (by omega) ?_
          refine zkW (v := (-2000000003)) kCA F (zwCA hP hD hS hA) hK hX hZ (c_L_assigns_k l hfl D cI cZ a H.size (B) (R) (E) (td) (q) (nI (x % q)) (nI (x % 8)) (2) ((-2000000003)) (by first | assumption | omega) (by first | assumption | omega) (ak2 hR hq h6 (m8 x).1 (m8 x).2 ua) (by decide) rfl) cw_assigns_k (by decide) rfl rfl hl.1 rfl (Nat.le_of_ble_eq_true rfl) dL_refuses_748 ⟨Nat.le_of_ble_eq_true rfl, Nat.le_of_ble_eq_true rfl⟩ (fun H locs hP hD hS => ?_)
          refine W.widen (k := 41) (n := 246) (Nat.le_of_ble_eq_true rfl) (Nat.le_of_ble_eq_true rfl) ?_
          refine lv_ldc (v := (-2000000003)) hx hb hown (hts (.constant RL 21 (-2000000003)) kL_refuses_21) dL_refuses_751 ?_
          refine lv_icmp_ne (tgt := 821) hx hb dL_refuses_753 (by decide) (fun c753 => ?_) (fun c753 => ?_)
          · -- 753 taken
            exact absurd rfl c753
          · -- 753 on
            exact k756  _ _ _ hP hD hS (lv_sub hl [0, 1, 2, 3, 4, 5, 6, 7] rfl)
set_option maxHeartbeats 8000000 in
set_option maxRecDepth 100000 in
theorem rf_n {p : Program} {l : Launch} {e : Env} {s : State} {m : MethodId} {args : Array Value} {below : List Frame} {meth : Method} {c : Code} {Q : State → Prop} {D : va_G} {A : Nat → Prop} {cI cZ : ClassId} {a : Nat → Nat} {B R E : Nat → Nat → Int32} {td : Int32} {H : Heap} {locs : List Loc} {ls : Array Slot} (n : Nat) (q : Nat) (x : Nat) (none : Int32) (late : Int32) (high : Int32) (gn : Nat) (F : CallFix p m c cL_refuses 8 s args wsL_refuses RL) (hK : va_K D vwCl (tyl cI cZ) s) (hA : ∀ q : Nat, s.heap.size ≤ q → A q) (hX : ExB s) (hZ : ExZ A s s.heap) (hfl : l.stackTraces = false) (hB : B 11 0 = nI n) (hn : n ≤ 40) (hR : R 8 0 = nI q) (hq : q ≤ 30) (hx9 : x < 9973) (I5 : ∀ j, j < q → R 5 j = 0 ∨ R 5 j = 1) (I0 : ∀ j, j < q → R 0 j = -1 ∨ ¬ R 0 j < 0) (I3 : ∀ j, j < q → ¬ R 3 j < 0) (I8 : ∀ i, i < n → ¬ B 8 i < 0) (e1 : none < 0 ∨ ¬ none < 8) (e2 : ¬ none = -1) (e3 : late < 0 ∨ ¬ late < R 8 0) (e4 : high < 0 ∨ ¬ high < B 11 0) (h6 : x % q < q) (hg : (gn = 1 ∧ R 5 (x % q) = 1) ∨ (gn = 0 ∧ R 5 (x % q) = 0)) (hP : va_P D vwCl (wCA a cI cZ B R E (td)) H) (hD : va_D A (wCA a cI cZ B R E (td))) (hS : va_S A s.heap H locs) (hl : lv_has ls 8 [(0, .ref (a 0)), (1, .int (nI (x))), (7, .int (nI (gn))), (6, .int (nI (x % q))), (5, .int (nI (1))), (4, .int (high)), (3, .int (late)), (2, .int (none))])
    (k781 : ∀ (H : Heap) (locs : List Loc) (ls : Array Slot), va_P D vwCl (wCA a cI cZ B R E (td)) H → va_D A (wCA a cI cZ B R E (td)) → va_S A s.heap H locs → lv_has ls 8 [(0, .ref (a 0)), (1, .int (nI (x))), (7, .int (nI (gn))), (6, .int (nI (x % q))), (5, .int (nI (1))), (4, .int (high)), (3, .int (late)), (2, .int (none))] → W p l e ({ frames := 9, cells := 44, slots := 264, locals := 184 } : Room) s m args below meth c H locs 42 252 Q (F0 m 781 ls [])) :
    W p l e ({ frames := 9, cells := 44, slots := 264, locals := 184 } : Room) s m args below meth c H locs 41 246 Q (F0 m 756 ls []) := by
  obtain ⟨hx, hb, hml, hown, hts⟩ := id F
  have cw_customer_0 : vx_CSW ({ frames := 9, cells := 44, slots := 264, locals := 184 } : Room) s args RL 141 yL_customer cL_customer 3 (some .int) [(0, 5, 6, 13)] wsL_customer ({ frames := 2, cells := 0, slots := 0, locals := 42 } : Room) 0 0 2 := vx_cwSW 2 hts gL_refuses_L_customer rfl rfl rfl (by decide +kernel) ⟨Nat.le_of_ble_eq_true rfl, Nat.le_of_ble_eq_true rfl⟩
  have cw_applies_k : vx_CSW ({ frames := 9, cells := 44, slots := 264, locals := 184 } : Room) s args RL 107 yL_applies cL_applies 3 (some .int) [(0, 5, 6, 13), (0, 5, 10, 19)] wsL_applies ({ frames := 8, cells := 1, slots := 6, locals := 157 } : Room) 1 6 2 := vx_cwSW 2 hts gL_refuses_L_applies rfl rfl rfl (by decide +kernel) ⟨Nat.le_of_ble_eq_true rfl, Nat.le_of_ble_eq_true rfl⟩
  refine lv_aload_n hx hb dL_refuses_756 rfl (lv_at hl 0 rfl) ?_
  refine lv_iload hx hb dL_refuses_757 (lv_at hl 3 rfl) ?_
  refine zkW (v := R 0 (x % q)) kCA F (zwCA hP hD hS hA) hK hX hZ (c_L_customer_0 l D cI cZ a H.size (B) (R) (E) (td) (q) (x % q) (by first | assumption | omega) (by first | assumption | omega) (by first | assumption | omega)) cw_customer_0 (by decide) rfl rfl hl.1 rfl (Nat.le_of_ble_eq_true rfl) dL_refuses_759 ⟨Nat.le_of_ble_eq_true rfl, Nat.le_of_ble_eq_true rfl⟩ (fun H locs hP hD hS => ?_)
  refine lv_if_lt (tgt := 770) hx hb dL_refuses_762 (by decide) (fun c762 => ?_) (fun c762 => ?_)
  · -- 762 taken
    have ub : ¬ R 5 (x % q) = 0 ∨ R 0 (x % q) = -1 := Or.inr ((I0 _ h6).resolve_right (fun z => z c762))
    refine lv_aload_n hx hb dL_refuses_770 rfl (lv_at hl 0 rfl) ?_
    refine lv_iload hx hb dL_refuses_771 (lv_at hl 3 rfl) ?_
    refine zkW (v := (-2000000003)) kCA F (zwCA hP hD hS hA) hK hX hZ (c_L_applies_k l hfl D cI cZ a H.size (B) (R) (E) (td) (q) (nI (x % q)) (2) ((-2000000003)) (by first | assumption | omega) (by first | assumption | omega) (pk2 hR hq h6 ub) (by decide) rfl) cw_applies_k (by decide) rfl rfl hl.1 rfl (Nat.le_of_ble_eq_true rfl) dL_refuses_773 ⟨Nat.le_of_ble_eq_true rfl, Nat.le_of_ble_eq_true rfl⟩ (fun H locs hP hD hS => ?_)
    refine W.widen (k := 42) (n := 252) (Nat.le_of_ble_eq_true rfl) (Nat.le_of_ble_eq_true rfl) ?_
    refine lv_ldc (v := (-2000000003)) hx hb hown (hts (.constant RL 21 (-2000000003)) kL_refuses_21) dL_refuses_776 ?_
    refine lv_icmp_ne (tgt := 821) hx hb dL_refuses_778 (by decide) (fun c778 => ?_) (fun c778 => ?_)
    · -- 778 taken
      exact absurd rfl c778
    · -- 778 on
      exact k781  _ _ _ hP hD hS (lv_sub hl [0, 1, 2, 3, 4, 5, 6, 7] rfl)
  · -- 762 on
    refine lv_iload hx hb dL_refuses_765 (lv_at hl 2 rfl) ?_
    refine lv_if_eq (tgt := 781) hx hb dL_refuses_767 (by decide) (fun c767 => ?_) (fun c767 => ?_)
    · -- 767 taken
      rw [show (0 : Int32) = nI 0 from rfl] at c767
      rw [nI_eq (by omega) (by omega)] at c767
      refine W.widen (k := 42) (n := 252) (Nat.le_of_ble_eq_true rfl) (Nat.le_of_ble_eq_true rfl) ?_
      exact k781  _ _ _ hP hD hS (lv_sub hl [0, 1, 2, 3, 4, 5, 6, 7] rfl)
    · -- 767 on
      rw [show (0 : Int32) = nI 0 from rfl] at c767
      rw [nI_eq (by omega) (by omega)] at c767
      have ub : ¬ R 5 (x % q) = 0 ∨ R 0 (x % q) = -1 := Or.inl (fun z => hg.elim (fun g => absurd (g.2.symm.trans z) (by decide)) (fun g => absurd g.1 (by omega)))
      refine lv_aload_n hx hb dL_refuses_770 rfl (lv_at hl 0 rfl) ?_
      refine lv_iload hx hb dL_refuses_771 (lv_at hl 3 rfl) ?_
      refine zkW (v := (-2000000003)) kCA F (zwCA hP hD hS hA) hK hX hZ (c_L_applies_k l hfl D cI cZ a H.size (B) (R) (E) (td) (q) (nI (x % q)) (2) ((-2000000003)) (by first | assumption | omega) (by first | assumption | omega) (pk2 hR hq h6 ub) (by decide) rfl) cw_applies_k (by decide) rfl rfl hl.1 rfl (Nat.le_of_ble_eq_true rfl) dL_refuses_773 ⟨Nat.le_of_ble_eq_true rfl, Nat.le_of_ble_eq_true rfl⟩ (fun H locs hP hD hS => ?_)
      refine W.widen (k := 42) (n := 252) (Nat.le_of_ble_eq_true rfl) (Nat.le_of_ble_eq_true rfl) ?_
      refine lv_ldc (v := (-2000000003)) hx hb hown (hts (.constant RL 21 (-2000000003)) kL_refuses_21) dL_refuses_776 ?_
      refine lv_icmp_ne (tgt := 821) hx hb dL_refuses_778 (by decide) (fun c778 => ?_) (fun c778 => ?_)
      · -- 778 taken
        exact absurd rfl c778
      · -- 778 on
        exact k781  _ _ _ hP hD hS (lv_sub hl [0, 1, 2, 3, 4, 5, 6, 7] rfl)
set_option maxHeartbeats 8000000 in
set_option maxRecDepth 100000 in
theorem rf_o {p : Program} {l : Launch} {e : Env} {s : State} {m : MethodId} {args : Array Value} {below : List Frame} {meth : Method} {c : Code} {Q : State → Prop} {D : va_G} {A : Nat → Prop} {cI cZ : ClassId} {a : Nat → Nat} {B R E : Nat → Nat → Int32} {td : Int32} {H : Heap} {locs : List Loc} {ls : Array Slot} (n : Nat) (q : Nat) (x : Nat) (none : Int32) (late : Int32) (high : Int32) (gn : Nat) (F : CallFix p m c cL_refuses 8 s args wsL_refuses RL) (hK : va_K D vwCl (tyl cI cZ) s) (hA : ∀ q : Nat, s.heap.size ≤ q → A q) (hX : ExB s) (hZ : ExZ A s s.heap) (hfl : l.stackTraces = false) (hB : B 11 0 = nI n) (hn : n ≤ 40) (hR : R 8 0 = nI q) (hq : q ≤ 30) (hx9 : x < 9973) (I5 : ∀ j, j < q → R 5 j = 0 ∨ R 5 j = 1) (I0 : ∀ j, j < q → R 0 j = -1 ∨ ¬ R 0 j < 0) (I3 : ∀ j, j < q → ¬ R 3 j < 0) (I8 : ∀ i, i < n → ¬ B 8 i < 0) (e1 : none < 0 ∨ ¬ none < 8) (e2 : ¬ none = -1) (e3 : late < 0 ∨ ¬ late < R 8 0) (e4 : high < 0 ∨ ¬ high < B 11 0) (h6 : x % q < q) (hg : (gn = 1 ∧ R 5 (x % q) = 1) ∨ (gn = 0 ∧ R 5 (x % q) = 0)) (hP : va_P D vwCl (wCA a cI cZ B R E (td)) H) (hD : va_D A (wCA a cI cZ B R E (td))) (hS : va_S A s.heap H locs) (hl : lv_has ls 8 [(0, .ref (a 0)), (1, .int (nI (x))), (7, .int (nI (gn))), (6, .int (nI (x % q))), (5, .int (nI (1))), (4, .int (high)), (3, .int (late)), (2, .int (none))])
    (k801 : ∀ (H : Heap) (locs : List Loc) (ls : Array Slot), va_P D vwCl (wCA a cI cZ B R E (td)) H → va_D A (wCA a cI cZ B R E (td)) → va_S A s.heap H locs → lv_has ls 8 [(0, .ref (a 0)), (1, .int (nI (x))), (7, .int (nI (gn))), (6, .int (nI (x % q))), (5, .int (nI (1))), (4, .int (high)), (3, .int (late)), (2, .int (none))] → W p l e ({ frames := 9, cells := 44, slots := 264, locals := 184 } : Room) s m args below meth c H locs 43 258 Q (F0 m 801 ls [])) :
    W p l e ({ frames := 9, cells := 44, slots := 264, locals := 184 } : Room) s m args below meth c H locs 42 252 Q (F0 m 781 ls []) := by
  obtain ⟨hx, hb, hml, hown, hts⟩ := id F
  have cw_unapplied_0 : vx_CSW ({ frames := 9, cells := 44, slots := 264, locals := 184 } : Room) s args RL 146 yL_unapplied cL_unapplied 3 (some .int) [(0, 5, 6, 13)] wsL_unapplied ({ frames := 2, cells := 0, slots := 0, locals := 42 } : Room) 0 0 2 := vx_cwSW 2 hts gL_refuses_L_unapplied rfl rfl rfl (by decide +kernel) ⟨Nat.le_of_ble_eq_true rfl, Nat.le_of_ble_eq_true rfl⟩
  have cw_paysBack_k : vx_CSW ({ frames := 9, cells := 44, slots := 264, locals := 184 } : Room) s args RL 111 yL_paysBack cL_paysBack 3 (some .int) [(0, 5, 6, 13), (0, 5, 10, 19)] wsL_paysBack ({ frames := 8, cells := 1, slots := 6, locals := 132 } : Room) 1 6 2 := vx_cwSW 2 hts gL_refuses_L_paysBack rfl rfl rfl (by decide +kernel) ⟨Nat.le_of_ble_eq_true rfl, Nat.le_of_ble_eq_true rfl⟩
  refine lv_aload_n hx hb dL_refuses_781 rfl (lv_at hl 0 rfl) ?_
  refine lv_iload hx hb dL_refuses_782 (lv_at hl 3 rfl) ?_
  refine zkW (v := R 3 (x % q)) kCA F (zwCA hP hD hS hA) hK hX hZ (c_L_unapplied_0 l D cI cZ a H.size (B) (R) (E) (td) (q) (x % q) (by first | assumption | omega) (by first | assumption | omega) (by first | assumption | omega)) cw_unapplied_0 (by decide) rfl rfl hl.1 rfl (Nat.le_of_ble_eq_true rfl) dL_refuses_784 ⟨Nat.le_of_ble_eq_true rfl, Nat.le_of_ble_eq_true rfl⟩ (fun H locs hP hD hS => ?_)
  refine lv_if_gt (tgt := 801) hx hb dL_refuses_787 (by decide) (fun c787 => ?_) (fun c787 => ?_)
  · -- 787 taken
    refine W.widen (k := 43) (n := 258) (Nat.le_of_ble_eq_true rfl) (Nat.le_of_ble_eq_true rfl) ?_
    exact k801  _ _ _ hP hD hS (lv_sub hl [0, 1, 2, 3, 4, 5, 6, 7] rfl)
  · -- 787 on
    have uc : R 3 (x % q) = 0 := Int32.toInt_inj.mp (by
      have g1 := I3 (x % q) h6
      have g2 := c787
      rw [Int32.lt_iff_toInt_lt] at g1 g2
      have z0 : (0 : Int32).toInt = 0 := by decide
      omega)
    refine lv_aload_n hx hb dL_refuses_790 rfl (lv_at hl 0 rfl) ?_
    refine lv_iload hx hb dL_refuses_791 (lv_at hl 3 rfl) ?_
    refine zkW (v := (-2000000003)) kCA F (zwCA hP hD hS hA) hK hX hZ (c_L_paysBack_k l hfl D cI cZ a H.size (B) (R) (E) (td) (q) (nI (x % q)) (2) ((-2000000003)) (by first | assumption | omega) (by first | assumption | omega) (yk2 hR hq h6 (Or.inr uc)) (by decide) rfl) cw_paysBack_k (by decide) rfl rfl hl.1 rfl (Nat.le_of_ble_eq_true rfl) dL_refuses_793 ⟨Nat.le_of_ble_eq_true rfl, Nat.le_of_ble_eq_true rfl⟩ (fun H locs hP hD hS => ?_)
    refine W.widen (k := 43) (n := 258) (Nat.le_of_ble_eq_true rfl) (Nat.le_of_ble_eq_true rfl) ?_
    refine lv_ldc (v := (-2000000003)) hx hb hown (hts (.constant RL 21 (-2000000003)) kL_refuses_21) dL_refuses_796 ?_
    refine lv_icmp_ne (tgt := 821) hx hb dL_refuses_798 (by decide) (fun c798 => ?_) (fun c798 => ?_)
    · -- 798 taken
      exact absurd rfl c798
    · -- 798 on
      exact k801  _ _ _ hP hD hS (lv_sub hl [0, 1, 2, 3, 4, 5, 6, 7] rfl)
set_option maxHeartbeats 8000000 in
set_option maxRecDepth 100000 in
theorem rf_p {p : Program} {l : Launch} {e : Env} {s : State} {m : MethodId} {args : Array Value} {below : List Frame} {meth : Method} {c : Code} {Q : State → Prop} {D : va_G} {A : Nat → Prop} {cI cZ : ClassId} {a : Nat → Nat} {B R E : Nat → Nat → Int32} {td : Int32} {H : Heap} {locs : List Loc} {ls : Array Slot} (n : Nat) (q : Nat) (x : Nat) (none : Int32) (late : Int32) (high : Int32) (gn : Nat) (F : CallFix p m c cL_refuses 8 s args wsL_refuses RL) (hK : va_K D vwCl (tyl cI cZ) s) (hA : ∀ q : Nat, s.heap.size ≤ q → A q) (hX : ExB s) (hZ : ExZ A s s.heap) (hfl : l.stackTraces = false) (hB : B 11 0 = nI n) (hn : n ≤ 40) (hR : R 8 0 = nI q) (hq : q ≤ 30) (hx9 : x < 9973) (I5 : ∀ j, j < q → R 5 j = 0 ∨ R 5 j = 1) (I0 : ∀ j, j < q → R 0 j = -1 ∨ ¬ R 0 j < 0) (I3 : ∀ j, j < q → ¬ R 3 j < 0) (I8 : ∀ i, i < n → ¬ B 8 i < 0) (e1 : none < 0 ∨ ¬ none < 8) (e2 : ¬ none = -1) (e3 : late < 0 ∨ ¬ late < R 8 0) (e4 : high < 0 ∨ ¬ high < B 11 0) (h6 : x % q < q) (hg : (gn = 1 ∧ R 5 (x % q) = 1) ∨ (gn = 0 ∧ R 5 (x % q) = 0)) (hP : va_P D vwCl (wCA a cI cZ B R E (td)) H) (hD : va_D A (wCA a cI cZ B R E (td))) (hS : va_S A s.heap H locs) (hl : lv_has ls 8 [(0, .ref (a 0)), (1, .int (nI (x))), (7, .int (nI (gn))), (6, .int (nI (x % q))), (5, .int (nI (1))), (4, .int (high)), (3, .int (late)), (2, .int (none))])
    (k824 : ∀ (H : Heap) (locs : List Loc) (ls : Array Slot), va_P D vwCl (wCA a cI cZ B R E (td)) H → va_D A (wCA a cI cZ B R E (td)) → va_S A s.heap H locs → lv_has ls 8 [(0, .ref (a 0)), (1, .int (nI (x))), (5, .int (nI (1))), (4, .int (high)), (3, .int (late)), (2, .int (none))] → W p l e ({ frames := 9, cells := 44, slots := 264, locals := 184 } : Room) s m args below meth c H locs 44 264 Q (F0 m 824 ls [])) :
    W p l e ({ frames := 9, cells := 44, slots := 264, locals := 184 } : Room) s m args below meth c H locs 43 258 Q (F0 m 801 ls []) := by
  obtain ⟨hx, hb, hml, hown, hts⟩ := id F
  have cw_bounces_k : vx_CSW ({ frames := 9, cells := 44, slots := 264, locals := 184 } : Room) s args RL 114 yL_bounces cL_bounces 3 (some .int) [(0, 5, 6, 13), (0, 5, 10, 19)] wsL_bounces ({ frames := 8, cells := 1, slots := 6, locals := 134 } : Room) 1 6 2 := vx_cwSW 2 hts gL_refuses_L_bounces rfl rfl rfl (by decide +kernel) ⟨Nat.le_of_ble_eq_true rfl, Nat.le_of_ble_eq_true rfl⟩
  refine lv_iload hx hb dL_refuses_801 (lv_at hl 2 rfl) ?_
  refine lv_if_eq (tgt := 817) hx hb dL_refuses_803 (by decide) (fun c803 => ?_) (fun c803 => ?_)
  · -- 803 taken
    rw [show (0 : Int32) = nI 0 from rfl] at c803
    rw [nI_eq (by omega) (by omega)] at c803
    refine lv_iconst (v := nI (1)) hx hb dL_refuses_817 (by decide) ?_
    refine lv_goto (tgt := 822) hx hb dL_refuses_818 (by decide) ?_
    refine lv_istore (lv' := [(5, .int (nI (1))), (0, .ref (a 0)), (1, .int (nI (x))), (7, .int (nI (gn))), (6, .int (nI (x % q))), (4, .int (high)), (3, .int (late)), (2, .int (none))]) hx hb dL_refuses_822 hl (by decide) rfl (fun ls hl => ?_)
    refine W.widen (k := 44) (n := 264) (Nat.le_of_ble_eq_true rfl) (Nat.le_of_ble_eq_true rfl) ?_
    exact k824  _ _ _ hP hD hS (lv_sub hl [1, 2, 0, 5, 6, 7] rfl)
  · -- 803 on
    rw [show (0 : Int32) = nI 0 from rfl] at c803
    rw [nI_eq (by omega) (by omega)] at c803
    have ud : ¬ R 5 (x % q) = 0 := (fun z => hg.elim (fun g => absurd (g.2.symm.trans z) (by decide)) (fun g => absurd g.1 (by omega)))
    refine lv_aload_n hx hb dL_refuses_806 rfl (lv_at hl 0 rfl) ?_
    refine lv_iload hx hb dL_refuses_807 (lv_at hl 3 rfl) ?_
    refine zkW (v := (-2000000003)) kCA F (zwCA hP hD hS hA) hK hX hZ (c_L_bounces_k l hfl D cI cZ a H.size (B) (R) (E) (td) (q) (nI (x % q)) (2) ((-2000000003)) (by first | assumption | omega) (by first | assumption | omega) (ck2 hR hq h6 (Or.inl ud)) (by decide) rfl) cw_bounces_k (by decide) rfl rfl hl.1 rfl (Nat.le_of_ble_eq_true rfl) dL_refuses_809 ⟨Nat.le_of_ble_eq_true rfl, Nat.le_of_ble_eq_true rfl⟩ (fun H locs hP hD hS => ?_)
    refine W.widen (k := 44) (n := 264) (Nat.le_of_ble_eq_true rfl) (Nat.le_of_ble_eq_true rfl) ?_
    refine lv_ldc (v := (-2000000003)) hx hb hown (hts (.constant RL 21 (-2000000003)) kL_refuses_21) dL_refuses_812 ?_
    refine lv_icmp_ne (tgt := 821) hx hb dL_refuses_814 (by decide) (fun c814 => ?_) (fun c814 => ?_)
    · -- 814 taken
      exact absurd rfl c814
    · -- 814 on
      refine lv_iconst (v := nI (1)) hx hb dL_refuses_817 (by decide) ?_
      refine lv_goto (tgt := 822) hx hb dL_refuses_818 (by decide) ?_
      refine lv_istore (lv' := [(5, .int (nI (1))), (0, .ref (a 0)), (1, .int (nI (x))), (7, .int (nI (gn))), (6, .int (nI (x % q))), (4, .int (high)), (3, .int (late)), (2, .int (none))]) hx hb dL_refuses_822 hl (by decide) rfl (fun ls hl => ?_)
      exact k824  _ _ _ hP hD hS (lv_sub hl [1, 2, 0, 5, 6, 7] rfl)
set_option maxHeartbeats 8000000 in
set_option maxRecDepth 100000 in
theorem c_L_refuses (l : Launch) (hfl : l.stackTraces = false) (D : va_G) (cI cZ : ClassId) (sz : Nat) (a : Nat → Nat) (B R E : Nat → Nat → Int32) (td : Int32) (n : Nat) (q : Nat) (x : Nat) (hB : B 11 0 = nI n) (hn : n ≤ 40) (hR : R 8 0 = nI q) (hq : q ≤ 30) (hx9 : x < 9973) (I5 : ∀ j, j < q → R 5 j = 0 ∨ R 5 j = 1) (I0 : ∀ j, j < q → R 0 j = -1 ∨ ¬ R 0 j < 0) (I3 : ∀ j, j < q → ¬ R 3 j < 0) (I8 : ∀ i, i < n → ¬ B 8 i < 0) : Met l yL_refuses wsL_refuses ({ frames := 9, cells := 44, slots := 264, locals := 184 } : Room) (va_Pc [.ref (a 0), .int (nI (x))] (PreX D cI cZ (wCA a cI cZ B R E (td)) sz)) (va_Qi (fun (r : Int32) (_ : Unit) => r = 1) (fun (_ : Unit) => PostW D cI cZ (va_A (wCA a cI cZ B R E (td)) sz) (wCA a cI cZ B R E (td))) (va_A (wCA a cI cZ B R E (td)) sz)) 44 264 (va_A (wCA a cI cZ B R E (td)) sz) := by
  refine Met.ofW (cc := cL_refuses) (maxL := 8) (ret := (some .boolean)) (by decide) rfl ?_
  intro p e s m args below meth c s₁ BB hml hv
  obtain ⟨rfl, ⟨hsz, hP, hK, hD0⟩, hX, hZ⟩ := hv
  have hx := BB.exec
  have hb := BB.bytes
  have hr := BB.returns
  have hts := atoms_spec (ws := wsL_refuses) BB.pre
  have hown : s.vm.findClass RL = some m.cls := findClass_of_methodNamed BB.named
  have hlocks := BB.notSynchronized
  clear BB
  subst hsz
  have hD := hD0.self (sz := s.heap.size)
  clear hD0
  generalize hAe : va_A (wCA a cI cZ B R E (td)) s.heap.size = A at hD hZ ⊢
  have hA : ∀ q : Nat, s.heap.size ≤ q → A q := fun q h => by rw [← hAe]; exact Or.inr h
  clear hAe
  have hl := lv_entry ([.ref (a 0), .int (nI (x))]) (n := 8) (Nat.le_of_ble_eq_true rfl)
  rw [lg_entry_eq]
  generalize (lg_sl ([.ref (a 0), .int (nI (x))]) ++ List.replicate (8 - (lg_sl ([.ref (a 0), .int (nI (x))])).length) Slot.unset).toArray = ls at hl ⊢
  have hl : lv_has ls 8 [(0, .ref (a 0)), (1, .int (nI (x)))] := hl
  have F : CallFix p m c cL_refuses 8 s ([.ref (a 0), .int (nI (x))] : List Value).toArray wsL_refuses RL := ⟨hx, hb, hml, hown, hts⟩
  have hS : va_S A s.heap s.heap [] := va_S.rf
  refine rf_a n q x  F hK hA hX hZ hfl hB hn hR hq hx9 I5 I0 I3 I8  hP hD hS hl (fun none e1 e2 H locs ls hP hD hS hl => ?_)
  refine rf_b n q x none F hK hA hX hZ hfl hB hn hR hq hx9 I5 I0 I3 I8  hP hD hS hl (fun late e3 H locs ls hP hD hS hl => ?_)
  refine rf_c n q x none late F hK hA hX hZ hfl hB hn hR hq hx9 I5 I0 I3 I8  hP hD hS hl (fun high e4 H locs ls hP hD hS hl => ?_)
  refine rf_d n q x none late high F hK hA hX hZ hfl hB hn hR hq hx9 I5 I0 I3 I8 e1 e2 e3 e4 hP hD hS hl (fun H locs ls hP hD hS hl => ?_)
  refine rf_e n q x none late high F hK hA hX hZ hfl hB hn hR hq hx9 I5 I0 I3 I8 e1 e2 e3 e4 hP hD hS hl (fun H locs ls hP hD hS hl => ?_)
  refine rf_f n q x none late high F hK hA hX hZ hfl hB hn hR hq hx9 I5 I0 I3 I8 e1 e2 e3 e4 hP hD hS hl (fun H locs ls hP hD hS hl => ?_)
  refine rf_g n q x none late high F hK hA hX hZ hfl hB hn hR hq hx9 I5 I0 I3 I8 e1 e2 e3 e4 hP hD hS hl (fun H locs ls hP hD hS hl => ?_)
  refine rf_h n q x none late high F hK hA hX hZ hfl hB hn hR hq hx9 I5 I0 I3 I8 e1 e2 e3 e4 hP hD hS hl (fun H locs ls hP hD hS hl => ?_)
  refine rf_i n q x none late high F hK hA hX hZ hfl hB hn hR hq hx9 I5 I0 I3 I8 e1 e2 e3 e4 hP hD hS hl (fun H locs ls hP hD hS hl => ?_)
  refine rf_j n q x none late high F hK hA hX hZ hfl hB hn hR hq hx9 I5 I0 I3 I8 e1 e2 e3 e4 hP hD hS hl (fun H locs ls hP hD hS hl => ?_)
  refine rf_k n q x none late high F hK hA hX hZ hfl hB hn hR hq hx9 I5 I0 I3 I8 e1 e2 e3 e4 hP hD hS hl (fun H locs ls hP hD hS hl => ?_)
  refine rf_l n q x none late high F hK hA hX hZ hfl hB hn hR hq hx9 I5 I0 I3 I8 e1 e2 e3 e4 hP hD hS hl (fun H locs ls hP hD hS hl => lv_iload hx hb dL_refuses_824 (lv_at hl 2 rfl) (W.zret (ty := .boolean) (v := nI (1)) hx hb hr (by decide) (fun t ht hW => ⟨⟨nI (1), (), rfl, rfl, by rw [ht]; exact hP, va_K.moved hW.alike hK, hD⟩, hS.F ht⟩) hS.2.2 dL_refuses_826)) (fun gn h6 hg H locs ls hP hD hS hl => ?_)
  refine rf_m n q x none late high gn F hK hA hX hZ hfl hB hn hR hq hx9 I5 I0 I3 I8 e1 e2 e3 e4 h6 hg hP hD hS hl (fun H locs ls hP hD hS hl => ?_)
  refine rf_n n q x none late high gn F hK hA hX hZ hfl hB hn hR hq hx9 I5 I0 I3 I8 e1 e2 e3 e4 h6 hg hP hD hS hl (fun H locs ls hP hD hS hl => ?_)
  refine rf_o n q x none late high gn F hK hA hX hZ hfl hB hn hR hq hx9 I5 I0 I3 I8 e1 e2 e3 e4 h6 hg hP hD hS hl (fun H locs ls hP hD hS hl => ?_)
  exact rf_p n q x none late high gn F hK hA hX hZ hfl hB hn hR hq hx9 I5 I0 I3 I8 e1 e2 e3 e4 h6 hg hP hD hS hl (fun H locs ls hP hD hS hl => lv_iload hx hb dL_refuses_824 (lv_at hl 2 rfl) (W.zret (ty := .boolean) (v := nI (1)) hx hb hr (by decide) (fun t ht hW => ⟨⟨nI (1), (), rfl, rfl, by rw [ht]; exact hP, va_K.moved hW.alike hK, hD⟩, hS.F ht⟩) hS.2.2 dL_refuses_826))
