theorem dL_act_0 : decode cL_act 0 = .ok (.iload_n 1, 1) := by decide +kernel
theorem dL_act_1 : decode cL_act 1 = .ok (.bipush 16, 2) := by decide +kernel
theorem dL_act_3 : decode cL_act 3 = .ok (.idiv, 1) := by decide +kernel
theorem dL_act_4 : decode cL_act 4 = .ok (.istore_n 2, 1) := by decide +kernel
theorem dL_act_5 : decode cL_act 5 = .ok (.iload_n 1, 1) := by decide +kernel
theorem dL_act_6 : decode cL_act 6 = .ok (.bipush 16, 2) := by decide +kernel
theorem dL_act_8 : decode cL_act 8 = .ok (.irem, 1) := by decide +kernel
theorem dL_act_9 : decode cL_act 9 = .ok (.tableswitch 367 0 14 #[75, 75, 75, 75, 75, 137, 137, 137, 171, 203, 231, 253, 275, 297, 297], 75) := by decide +kernel
theorem dL_act_84 : decode cL_act 84 = .ok (.aload_n 0, 1) := by decide +kernel
theorem dL_act_85 : decode cL_act 85 = .ok (.iload_n 2, 1) := by decide +kernel
theorem dL_act_86 : decode cL_act 86 = .ok (.iconst 2, 1) := by decide +kernel
theorem dL_act_87 : decode cL_act 87 = .ok (.irem, 1) := by decide +kernel
theorem dL_act_88 : decode cL_act 88 = .ok (.iconst 1, 1) := by decide +kernel
theorem dL_act_89 : decode cL_act 89 = .ok (.iload_n 2, 1) := by decide +kernel
theorem dL_act_90 : decode cL_act 90 = .ok (.iconst 2, 1) := by decide +kernel
theorem dL_act_91 : decode cL_act 91 = .ok (.idiv, 1) := by decide +kernel
theorem dL_act_92 : decode cL_act 92 = .ok (.iload_n 2, 1) := by decide +kernel
theorem dL_act_93 : decode cL_act 93 = .ok (.iconst 3, 1) := by decide +kernel
theorem dL_act_94 : decode cL_act 94 = .ok (.irem, 1) := by decide +kernel
theorem dL_act_95 : decode cL_act 95 = .ok (.ifCond .ne 8, 3) := by decide +kernel
theorem dL_act_98 : decode cL_act 98 = .ok (.bipush 9, 2) := by decide +kernel
theorem dL_act_100 : decode cL_act 100 = .ok (.goto 6, 3) := by decide +kernel
theorem dL_act_103 : decode cL_act 103 = .ok (.sipush 5000, 3) := by decide +kernel
theorem dL_act_106 : decode cL_act 106 = .ok (.irem, 1) := by decide +kernel
theorem dL_act_107 : decode cL_act 107 = .ok (.iadd, 1) := by decide +kernel
theorem dL_act_108 : decode cL_act 108 = .ok (.iconst 1, 1) := by decide +kernel
theorem dL_act_109 : decode cL_act 109 = .ok (.iload_n 2, 1) := by decide +kernel
theorem dL_act_110 : decode cL_act 110 = .ok (.bipush 7, 2) := by decide +kernel
theorem dL_act_112 : decode cL_act 112 = .ok (.idiv, 1) := by decide +kernel
theorem dL_act_113 : decode cL_act 113 = .ok (.iconst 3, 1) := by decide +kernel
theorem dL_act_114 : decode cL_act 114 = .ok (.irem, 1) := by decide +kernel
theorem dL_act_115 : decode cL_act 115 = .ok (.iadd, 1) := by decide +kernel
theorem dL_act_116 : decode cL_act 116 = .ok (.iload_n 2, 1) := by decide +kernel
theorem dL_act_117 : decode cL_act 117 = .ok (.iconst 5, 1) := by decide +kernel
theorem dL_act_118 : decode cL_act 118 = .ok (.irem, 1) := by decide +kernel
theorem dL_act_119 : decode cL_act 119 = .ok (.ifCond .ne 9, 3) := by decide +kernel
theorem dL_act_122 : decode cL_act 122 = .ok (.sipush 10000, 3) := by decide +kernel
theorem dL_act_125 : decode cL_act 125 = .ok (.goto 11, 3) := by decide +kernel
theorem dL_act_128 : decode cL_act 128 = .ok (.iload_n 2, 1) := by decide +kernel
theorem dL_act_129 : decode cL_act 129 = .ok (.bipush 11, 2) := by decide +kernel
theorem dL_act_131 : decode cL_act 131 = .ok (.idiv, 1) := by decide +kernel
theorem dL_act_132 : decode cL_act 132 = .ok (.sipush 500, 3) := by decide +kernel
theorem dL_act_135 : decode cL_act 135 = .ok (.irem, 1) := by decide +kernel
theorem dL_act_136 : decode cL_act 136 = .ok (.iload_n 2, 1) := by decide +kernel
theorem dL_act_137 : decode cL_act 137 = .ok (.bipush 13, 2) := by decide +kernel
theorem dL_act_139 : decode cL_act 139 = .ok (.idiv, 1) := by decide +kernel
theorem dL_act_140 : decode cL_act 140 = .ok (.iconst 5, 1) := by decide +kernel
theorem dL_act_141 : decode cL_act 141 = .ok (.irem, 1) := by decide +kernel
theorem dL_act_142 : decode cL_act 142 = .ok (.invokestatic 93, 3) := by decide +kernel
theorem dL_act_145 : decode cL_act 145 = .ok (.ireturn, 1) := by decide +kernel
theorem dL_act_146 : decode cL_act 146 = .ok (.aload_n 0, 1) := by decide +kernel
theorem dL_act_147 : decode cL_act 147 = .ok (.iload_n 2, 1) := by decide +kernel
theorem dL_act_148 : decode cL_act 148 = .ok (.iconst 2, 1) := by decide +kernel
theorem dL_act_149 : decode cL_act 149 = .ok (.irem, 1) := by decide +kernel
theorem dL_act_150 : decode cL_act 150 = .ok (.iconst 1, 1) := by decide +kernel
theorem dL_act_151 : decode cL_act 151 = .ok (.iload_n 2, 1) := by decide +kernel
theorem dL_act_152 : decode cL_act 152 = .ok (.iconst 2, 1) := by decide +kernel
theorem dL_act_153 : decode cL_act 153 = .ok (.idiv, 1) := by decide +kernel
theorem dL_act_154 : decode cL_act 154 = .ok (.iload_n 2, 1) := by decide +kernel
theorem dL_act_155 : decode cL_act 155 = .ok (.iconst 3, 1) := by decide +kernel
theorem dL_act_156 : decode cL_act 156 = .ok (.irem, 1) := by decide +kernel
theorem dL_act_157 : decode cL_act 157 = .ok (.ifCond .ne 8, 3) := by decide +kernel
theorem dL_act_160 : decode cL_act 160 = .ok (.bipush 20, 2) := by decide +kernel
theorem dL_act_162 : decode cL_act 162 = .ok (.goto 6, 3) := by decide +kernel
theorem dL_act_165 : decode cL_act 165 = .ok (.sipush 6000, 3) := by decide +kernel
theorem dL_act_168 : decode cL_act 168 = .ok (.irem, 1) := by decide +kernel
theorem dL_act_169 : decode cL_act 169 = .ok (.iadd, 1) := by decide +kernel
theorem dL_act_170 : decode cL_act 170 = .ok (.iload_n 2, 1) := by decide +kernel
theorem dL_act_171 : decode cL_act 171 = .ok (.bipush 7, 2) := by decide +kernel
theorem dL_act_173 : decode cL_act 173 = .ok (.idiv, 1) := by decide +kernel
theorem dL_act_174 : decode cL_act 174 = .ok (.iconst 4, 1) := by decide +kernel
theorem dL_act_175 : decode cL_act 175 = .ok (.irem, 1) := by decide +kernel
theorem dL_act_176 : decode cL_act 176 = .ok (.invokestatic 99, 3) := by decide +kernel
theorem dL_act_179 : decode cL_act 179 = .ok (.ireturn, 1) := by decide +kernel
theorem dL_act_180 : decode cL_act 180 = .ok (.aload_n 0, 1) := by decide +kernel
theorem dL_act_181 : decode cL_act 181 = .ok (.iconst (-1), 1) := by decide +kernel
theorem dL_act_182 : decode cL_act 182 = .ok (.iconst 1, 1) := by decide +kernel
theorem dL_act_183 : decode cL_act 183 = .ok (.iload_n 2, 1) := by decide +kernel
theorem dL_act_184 : decode cL_act 184 = .ok (.iconst 2, 1) := by decide +kernel
theorem dL_act_185 : decode cL_act 185 = .ok (.idiv, 1) := by decide +kernel
theorem dL_act_186 : decode cL_act 186 = .ok (.iload_n 2, 1) := by decide +kernel
theorem dL_act_187 : decode cL_act 187 = .ok (.iconst 3, 1) := by decide +kernel
theorem dL_act_188 : decode cL_act 188 = .ok (.irem, 1) := by decide +kernel
theorem dL_act_189 : decode cL_act 189 = .ok (.ifCond .ne 8, 3) := by decide +kernel
theorem dL_act_192 : decode cL_act 192 = .ok (.bipush 20, 2) := by decide +kernel
theorem dL_act_194 : decode cL_act 194 = .ok (.goto 6, 3) := by decide +kernel
theorem dL_act_197 : decode cL_act 197 = .ok (.sipush 6000, 3) := by decide +kernel
theorem dL_act_200 : decode cL_act 200 = .ok (.irem, 1) := by decide +kernel
theorem dL_act_201 : decode cL_act 201 = .ok (.iadd, 1) := by decide +kernel
theorem dL_act_202 : decode cL_act 202 = .ok (.iload_n 2, 1) := by decide +kernel
theorem dL_act_203 : decode cL_act 203 = .ok (.bipush 7, 2) := by decide +kernel
theorem dL_act_205 : decode cL_act 205 = .ok (.idiv, 1) := by decide +kernel
theorem dL_act_206 : decode cL_act 206 = .ok (.iconst 4, 1) := by decide +kernel
theorem dL_act_207 : decode cL_act 207 = .ok (.irem, 1) := by decide +kernel
theorem dL_act_208 : decode cL_act 208 = .ok (.invokestatic 99, 3) := by decide +kernel
theorem dL_act_211 : decode cL_act 211 = .ok (.ireturn, 1) := by decide +kernel
theorem dL_act_212 : decode cL_act 212 = .ok (.aload_n 0, 1) := by decide +kernel
theorem dL_act_213 : decode cL_act 213 = .ok (.aload_n 0, 1) := by decide +kernel
theorem dL_act_214 : decode cL_act 214 = .ok (.invokevirtual 86, 3) := by decide +kernel
theorem dL_act_217 : decode cL_act 217 = .ok (.ifCond .ne 7, 3) := by decide +kernel
theorem dL_act_220 : decode cL_act 220 = .ok (.iconst 0, 1) := by decide +kernel
theorem dL_act_221 : decode cL_act 221 = .ok (.goto 9, 3) := by decide +kernel
theorem dL_act_224 : decode cL_act 224 = .ok (.iload_n 2, 1) := by decide +kernel
theorem dL_act_225 : decode cL_act 225 = .ok (.aload_n 0, 1) := by decide +kernel
theorem dL_act_226 : decode cL_act 226 = .ok (.invokevirtual 86, 3) := by decide +kernel
theorem dL_act_229 : decode cL_act 229 = .ok (.irem, 1) := by decide +kernel
theorem dL_act_230 : decode cL_act 230 = .ok (.iload_n 2, 1) := by decide +kernel
theorem dL_act_231 : decode cL_act 231 = .ok (.bipush 30, 2) := by decide +kernel
theorem dL_act_233 : decode cL_act 233 = .ok (.idiv, 1) := by decide +kernel
theorem dL_act_234 : decode cL_act 234 = .ok (.iconst 2, 1) := by decide +kernel
theorem dL_act_235 : decode cL_act 235 = .ok (.irem, 1) := by decide +kernel
theorem dL_act_236 : decode cL_act 236 = .ok (.invokestatic 103, 3) := by decide +kernel
theorem dL_act_239 : decode cL_act 239 = .ok (.ireturn, 1) := by decide +kernel
theorem dL_act_240 : decode cL_act 240 = .ok (.aload_n 0, 1) := by decide +kernel
theorem dL_act_241 : decode cL_act 241 = .ok (.aload_n 0, 1) := by decide +kernel
theorem dL_act_242 : decode cL_act 242 = .ok (.invokevirtual 86, 3) := by decide +kernel
theorem dL_act_245 : decode cL_act 245 = .ok (.ifCond .ne 7, 3) := by decide +kernel
theorem dL_act_248 : decode cL_act 248 = .ok (.iconst 0, 1) := by decide +kernel
theorem dL_act_249 : decode cL_act 249 = .ok (.goto 9, 3) := by decide +kernel
theorem dL_act_252 : decode cL_act 252 = .ok (.iload_n 2, 1) := by decide +kernel
theorem dL_act_253 : decode cL_act 253 = .ok (.aload_n 0, 1) := by decide +kernel
theorem dL_act_254 : decode cL_act 254 = .ok (.invokevirtual 86, 3) := by decide +kernel
theorem dL_act_257 : decode cL_act 257 = .ok (.irem, 1) := by decide +kernel
theorem dL_act_258 : decode cL_act 258 = .ok (.invokestatic 107, 3) := by decide +kernel
theorem dL_act_261 : decode cL_act 261 = .ok (.ireturn, 1) := by decide +kernel
theorem dL_act_262 : decode cL_act 262 = .ok (.aload_n 0, 1) := by decide +kernel
theorem dL_act_263 : decode cL_act 263 = .ok (.aload_n 0, 1) := by decide +kernel
theorem dL_act_264 : decode cL_act 264 = .ok (.invokevirtual 86, 3) := by decide +kernel
theorem dL_act_267 : decode cL_act 267 = .ok (.ifCond .ne 7, 3) := by decide +kernel
theorem dL_act_270 : decode cL_act 270 = .ok (.iconst 0, 1) := by decide +kernel
theorem dL_act_271 : decode cL_act 271 = .ok (.goto 9, 3) := by decide +kernel
theorem dL_act_274 : decode cL_act 274 = .ok (.iload_n 2, 1) := by decide +kernel
theorem dL_act_275 : decode cL_act 275 = .ok (.aload_n 0, 1) := by decide +kernel
theorem dL_act_276 : decode cL_act 276 = .ok (.invokevirtual 86, 3) := by decide +kernel
theorem dL_act_279 : decode cL_act 279 = .ok (.irem, 1) := by decide +kernel
theorem dL_act_280 : decode cL_act 280 = .ok (.invokestatic 111, 3) := by decide +kernel
theorem dL_act_283 : decode cL_act 283 = .ok (.ireturn, 1) := by decide +kernel
theorem dL_act_284 : decode cL_act 284 = .ok (.aload_n 0, 1) := by decide +kernel
theorem dL_act_285 : decode cL_act 285 = .ok (.aload_n 0, 1) := by decide +kernel
theorem dL_act_286 : decode cL_act 286 = .ok (.invokevirtual 86, 3) := by decide +kernel
theorem dL_act_289 : decode cL_act 289 = .ok (.ifCond .ne 7, 3) := by decide +kernel
theorem dL_act_292 : decode cL_act 292 = .ok (.iconst 0, 1) := by decide +kernel
theorem dL_act_293 : decode cL_act 293 = .ok (.goto 9, 3) := by decide +kernel
theorem dL_act_296 : decode cL_act 296 = .ok (.iload_n 2, 1) := by decide +kernel
theorem dL_act_297 : decode cL_act 297 = .ok (.aload_n 0, 1) := by decide +kernel
theorem dL_act_298 : decode cL_act 298 = .ok (.invokevirtual 86, 3) := by decide +kernel
theorem dL_act_301 : decode cL_act 301 = .ok (.irem, 1) := by decide +kernel
theorem dL_act_302 : decode cL_act 302 = .ok (.invokestatic 114, 3) := by decide +kernel
theorem dL_act_305 : decode cL_act 305 = .ok (.ireturn, 1) := by decide +kernel
theorem dL_act_306 : decode cL_act 306 = .ok (.aload_n 0, 1) := by decide +kernel
theorem dL_act_307 : decode cL_act 307 = .ok (.invokevirtual 90, 3) := by decide +kernel
theorem dL_act_310 : decode cL_act 310 = .ok (.ifCond .ne 7, 3) := by decide +kernel
theorem dL_act_313 : decode cL_act 313 = .ok (.iconst 0, 1) := by decide +kernel
theorem dL_act_314 : decode cL_act 314 = .ok (.goto 9, 3) := by decide +kernel
theorem dL_act_317 : decode cL_act 317 = .ok (.iload_n 2, 1) := by decide +kernel
theorem dL_act_318 : decode cL_act 318 = .ok (.aload_n 0, 1) := by decide +kernel
theorem dL_act_319 : decode cL_act 319 = .ok (.invokevirtual 90, 3) := by decide +kernel
theorem dL_act_322 : decode cL_act 322 = .ok (.irem, 1) := by decide +kernel
theorem dL_act_323 : decode cL_act 323 = .ok (.istore_n 3, 1) := by decide +kernel
theorem dL_act_324 : decode cL_act 324 = .ok (.iconst 0, 1) := by decide +kernel
theorem dL_act_325 : decode cL_act 325 = .ok (.istore 4, 2) := by decide +kernel
theorem dL_act_327 : decode cL_act 327 = .ok (.iload 4, 2) := by decide +kernel
theorem dL_act_329 : decode cL_act 329 = .ok (.aload_n 0, 1) := by decide +kernel
theorem dL_act_330 : decode cL_act 330 = .ok (.invokevirtual 90, 3) := by decide +kernel
theorem dL_act_333 : decode cL_act 333 = .ok (.if_icmp .ge 26, 3) := by decide +kernel
theorem dL_act_336 : decode cL_act 336 = .ok (.aload_n 0, 1) := by decide +kernel
theorem dL_act_337 : decode cL_act 337 = .ok (.iload_n 3, 1) := by decide +kernel
theorem dL_act_338 : decode cL_act 338 = .ok (.invokestatic 132, 3) := by decide +kernel
theorem dL_act_341 : decode cL_act 341 = .ok (.ifCond .ne 18, 3) := by decide +kernel
theorem dL_act_344 : decode cL_act 344 = .ok (.iload_n 3, 1) := by decide +kernel
theorem dL_act_345 : decode cL_act 345 = .ok (.iconst 1, 1) := by decide +kernel
theorem dL_act_346 : decode cL_act 346 = .ok (.iadd, 1) := by decide +kernel
theorem dL_act_347 : decode cL_act 347 = .ok (.aload_n 0, 1) := by decide +kernel
theorem dL_act_348 : decode cL_act 348 = .ok (.invokevirtual 90, 3) := by decide +kernel
theorem dL_act_351 : decode cL_act 351 = .ok (.irem, 1) := by decide +kernel
theorem dL_act_352 : decode cL_act 352 = .ok (.istore_n 3, 1) := by decide +kernel
theorem dL_act_353 : decode cL_act 353 = .ok (.iinc 4 1, 3) := by decide +kernel
theorem dL_act_356 : decode cL_act 356 = .ok (.goto (-29), 3) := by decide +kernel
theorem dL_act_359 : decode cL_act 359 = .ok (.aload_n 0, 1) := by decide +kernel
theorem dL_act_360 : decode cL_act 360 = .ok (.iload_n 3, 1) := by decide +kernel
theorem dL_act_361 : decode cL_act 361 = .ok (.iload_n 2, 1) := by decide +kernel
theorem dL_act_362 : decode cL_act 362 = .ok (.iconst 2, 1) := by decide +kernel
theorem dL_act_363 : decode cL_act 363 = .ok (.irem, 1) := by decide +kernel
theorem dL_act_364 : decode cL_act 364 = .ok (.ifCond .ne 7, 3) := by decide +kernel
theorem dL_act_367 : decode cL_act 367 = .ok (.iconst 1, 1) := by decide +kernel
theorem dL_act_368 : decode cL_act 368 = .ok (.goto 4, 3) := by decide +kernel
theorem dL_act_371 : decode cL_act 371 = .ok (.iconst 0, 1) := by decide +kernel
theorem dL_act_372 : decode cL_act 372 = .ok (.invokestatic 117, 3) := by decide +kernel
theorem dL_act_375 : decode cL_act 375 = .ok (.ireturn, 1) := by decide +kernel
theorem dL_act_376 : decode cL_act 376 = .ok (.aload_n 0, 1) := by decide +kernel
theorem dL_act_377 : decode cL_act 377 = .ok (.iconst 1, 1) := by decide +kernel
theorem dL_act_378 : decode cL_act 378 = .ok (.iload_n 2, 1) := by decide +kernel
theorem dL_act_379 : decode cL_act 379 = .ok (.iconst 3, 1) := by decide +kernel
theorem dL_act_380 : decode cL_act 380 = .ok (.irem, 1) := by decide +kernel
theorem dL_act_381 : decode cL_act 381 = .ok (.iadd, 1) := by decide +kernel
theorem dL_act_382 : decode cL_act 382 = .ok (.invokestatic 121, 3) := by decide +kernel
theorem dL_act_385 : decode cL_act 385 = .ok (.ireturn, 1) := by decide +kernel
set_option maxHeartbeats 8000000 in
set_option maxRecDepth 100000 in
theorem ac_b {p : Program} {l : Launch} {e : Env} {s : State} {m : MethodId} {args : Array Value} {below : List Frame} {meth : Method} {c : Code} {Q : State → Prop} {D : va_G} {A : Nat → Prop} {cI cZ : ClassId} {a : Nat → Nat} {B R E : Nat → Nat → Int32} {td : Int32} {H : Heap} {locs : List Loc} {ls : Array Slot} (n : Nat) (q : Nat) (y : Nat) (F : CallFix p m c cL_act 5 s args wsL_act RL) (hK : va_K D vwCl (tyl cI cZ) s) (hA : ∀ q : Nat, s.heap.size ≤ q → A q) (hX : ExB s) (hZ : ExZ A s s.heap) (hfl : l.stackTraces = false) (hB : B 11 0 = nI n) (hn : n ≤ 40) (hR : R 8 0 = nI q) (hq : q ≤ 30) (I7 : ∀ j, R 7 j = 0 ∨ R 7 j = 1) (hy : y < 134217728) (hP : va_P D vwCl (wCA a cI cZ B R E (td)) H) (hD : va_D A (wCA a cI cZ B R E (td))) (hS : va_S A s.heap H locs) (hl : lv_has ls 5 [(0, .ref (a 0)), (2, .int (nI (y)))])
    (k145 : ∀ (r : Int32) (B' : Nat → Nat → Int32) (R' : Nat → Nat → Int32) (E' : Nat → Nat → Int32) (td' : Int32) (hres : actB B R E td n y = (r, B', R', E', td')) (H : Heap) (locs : List Loc) (ls : Array Slot), va_P D vwCl (wCA a cI cZ B' R' E' (td')) H → va_D A (wCA a cI cZ B' R' E' (td')) → va_S A s.heap H locs → lv_has ls 5 [(0, .ref (a 0)), (2, .int (nI (y)))] → W p l e ({ frames := 9, cells := 1, slots := 6, locals := 184 } : Room) s m args below meth c H locs 1 6 Q (F0 m 145 ls [.int (r)])) :
    W p l e ({ frames := 9, cells := 1, slots := 6, locals := 184 } : Room) s m args below meth c H locs 0 0 Q (F0 m 84 ls []) := by
  obtain ⟨hx, hb, hml, hown, hts⟩ := id F
  have cw_bills_0 : vx_CSW ({ frames := 9, cells := 1, slots := 6, locals := 184 } : Room) s args RL 93 yL_bills cL_bills 7 (some .int) [(0, 11, 12, 13), (0, 11, 17, 16), (0, 11, 22, 19)] wsL_bills ({ frames := 2, cells := 0, slots := 0, locals := 51 } : Room) 0 0 6 := vx_cwSW 6 hts gL_act_L_bills rfl rfl rfl (by decide +kernel) ⟨Nat.le_of_ble_eq_true rfl, Nat.le_of_ble_eq_true rfl⟩
  have cw_bills_k : vx_CSW ({ frames := 9, cells := 1, slots := 6, locals := 184 } : Room) s args RL 93 yL_bills cL_bills 7 (some .int) [(0, 11, 12, 13), (0, 11, 17, 16), (0, 11, 22, 19)] wsL_bills ({ frames := 8, cells := 1, slots := 6, locals := 137 } : Room) 1 6 6 := vx_cwSW 6 hts gL_act_L_bills rfl rfl rfl (by decide +kernel) ⟨Nat.le_of_ble_eq_true rfl, Nat.le_of_ble_eq_true rfl⟩
  refine lv_aload_n hx hb dL_act_84 rfl (lv_at hl 0 rfl) ?_
  refine lv_iload_n hx hb dL_act_85 rfl (lv_at hl 1 rfl) ?_
  refine lv_iconst (v := nI (2)) hx hb dL_act_86 (by decide) ?_
  refine lv_rem (x := y) (d := 2) hx hb rfl rfl dL_act_87 (by omega) (by omega) (by omega) ?_
  refine lv_iconst (v := nI (1)) hx hb dL_act_88 (by decide) ?_
  refine lv_iload_n hx hb dL_act_89 rfl (lv_at hl 1 rfl) ?_
  refine lv_iconst (v := nI (2)) hx hb dL_act_90 (by decide) ?_
  refine lv_quo (x := y) (d := 2) hx hb rfl rfl dL_act_91 (by omega) (by omega) (by omega) ?_
  refine lv_iload_n hx hb dL_act_92 rfl (lv_at hl 1 rfl) ?_
  refine lv_iconst (v := nI (3)) hx hb dL_act_93 (by decide) ?_
  refine lv_rem (x := y) (d := 3) hx hb rfl rfl dL_act_94 (by omega) (by omega) (by omega) ?_
  refine lv_if_ne (tgt := 103) hx hb dL_act_95 (by decide) (fun c95 => ?_) (fun c95 => ?_)
  · -- 95 taken
    rw [show (0 : Int32) = nI 0 from rfl] at c95
    rw [nI_eq (by omega) (by omega)] at c95
    refine lv_sipush (v := nI (5000)) hx hb dL_act_103 (by decide) ?_
    refine lv_rem (x := y / 2) (d := 5000) hx hb rfl rfl dL_act_106 (by omega) (by omega) (by omega) ?_
    refine lv_sum (x := 1) (d := (y / 2) % (5000)) hx hb rfl rfl dL_act_107 ?_
    refine lv_iconst (v := nI (1)) hx hb dL_act_108 (by decide) ?_
    refine lv_iload_n hx hb dL_act_109 rfl (lv_at hl 1 rfl) ?_
    refine lv_bipush (v := nI (7)) hx hb dL_act_110 (by decide) ?_
    refine lv_quo (x := y) (d := 7) hx hb rfl rfl dL_act_112 (by omega) (by omega) (by omega) ?_
    refine lv_iconst (v := nI (3)) hx hb dL_act_113 (by decide) ?_
    refine lv_rem (x := y / 7) (d := 3) hx hb rfl rfl dL_act_114 (by omega) (by omega) (by omega) ?_
    refine lv_sum (x := 1) (d := (y / 7) % (3)) hx hb rfl rfl dL_act_115 ?_
    refine lv_iload_n hx hb dL_act_116 rfl (lv_at hl 1 rfl) ?_
    refine lv_iconst (v := nI (5)) hx hb dL_act_117 (by decide) ?_
    refine lv_rem (x := y) (d := 5) hx hb rfl rfl dL_act_118 (by omega) (by omega) (by omega) ?_
    refine lv_if_ne (tgt := 128) hx hb dL_act_119 (by decide) (fun c119 => ?_) (fun c119 => ?_)
    · -- 119 taken
      rw [show (0 : Int32) = nI 0 from rfl] at c119
      rw [nI_eq (by omega) (by omega)] at c119
      refine lv_iload_n hx hb dL_act_128 rfl (lv_at hl 1 rfl) ?_
      refine lv_bipush (v := nI (11)) hx hb dL_act_129 (by decide) ?_
      refine lv_quo (x := y) (d := 11) hx hb rfl rfl dL_act_131 (by omega) (by omega) (by omega) ?_
      refine lv_sipush (v := nI (500)) hx hb dL_act_132 (by decide) ?_
      refine lv_rem (x := y / 11) (d := 500) hx hb rfl rfl dL_act_135 (by omega) (by omega) (by omega) ?_
      refine lv_iload_n hx hb dL_act_136 rfl (lv_at hl 1 rfl) ?_
      refine lv_bipush (v := nI (13)) hx hb dL_act_137 (by decide) ?_
      refine lv_quo (x := y) (d := 13) hx hb rfl rfl dL_act_139 (by omega) (by omega) (by omega) ?_
      refine lv_iconst (v := nI (5)) hx hb dL_act_140 (by decide) ?_
      refine lv_rem (x := y / 13) (d := 5) hx hb rfl rfl dL_act_141 (by omega) (by omega) (by omega) ?_
      by_cases hlt : n < 40
      · -- hlt True
        refine zcW (wf := fun (_ : Unit) => (wCA a cI cZ (addB B n (nI (y % 2)) (nI ((1) + ((y / 2) % (5000)))) (nI ((1) + ((y / 7) % (3)))) (dcO (nI ((1) + ((y / 2) % (5000)))) (nI ((y / 11) % (500)))) (td + (nI ((y / 13) % (5))))) R E (td))) kCA F (zwCA hP hD hS hA) hK hX hZ (c_L_bills_0 l D cI cZ a H.size (B) (R) (E) (td) (n) (nI (y % 2)) (nI ((1) + ((y / 2) % (5000)))) (nI ((1) + ((y / 7) % (3)))) (nI ((y / 11) % (500))) (nI ((y / 13) % (5))) (by first | assumption | omega) (by first | assumption | omega) (nI_pos (by omega)) (nI_lt (b := 8) (by omega) (by decide)) (by show ¬ nI _ < 1; exact nI_nlt (b := 1) (by omega) (by omega)) (nI_le (b := 1000000) (by omega) (by decide)) (by show ¬ nI _ < 1; exact nI_nlt (b := 1) (by omega) (by omega)) (nI_le (b := 9999) (by omega) (by decide)) (nI_pos (by omega)) (nI_le (b := 10000) (by omega) (by decide)) (nI_pos (by omega)) (nI_le (b := 90) (by omega) (by decide))) cw_bills_0 (by decide) (fun _ => rfl) rfl hl.1 rfl (Nat.le_of_ble_eq_true rfl) dL_act_142 ⟨Nat.le_of_ble_eq_true rfl, Nat.le_of_ble_eq_true rfl⟩ (fun r142 u H locs hw hP hD hS => ?_)
        have hw : r142 = nI n := hw
        subst hw
        have hP : va_P D vwCl (wCA a cI cZ (addB B n (nI (y % 2)) (nI ((1) + ((y / 2) % (5000)))) (nI ((1) + ((y / 7) % (3)))) (dcO (nI ((1) + ((y / 2) % (5000)))) (nI ((y / 11) % (500)))) (td + (nI ((y / 13) % (5))))) R E (td)) H := hP
        have hD : va_D A (wCA a cI cZ (addB B n (nI (y % 2)) (nI ((1) + ((y / 2) % (5000)))) (nI ((1) + ((y / 7) % (3)))) (dcO (nI ((1) + ((y / 2) % (5000)))) (nI ((y / 11) % (500)))) (td + (nI ((y / 13) % (5))))) R E (td)) := hD
        refine W.widen (k := 1) (n := 6) (Nat.le_of_ble_eq_true rfl) (Nat.le_of_ble_eq_true rfl) ?_
        exact k145 (nI n) ((addB B n (nI (y % 2)) (nI ((1) + ((y / 2) % (5000)))) (nI ((1) + ((y / 7) % (3)))) (dcO (nI ((1) + ((y / 2) % (5000)))) (nI ((y / 11) % (500)))) (td + (nI ((y / 13) % (5)))))) (R) (E) (td) (by simp only [actB, actR, actA, actP, actK, actC, actS, actV, aAm, aRt, c95, c119, hlt, if_true, if_false, ite_true, ite_false, reduceIte, not_true, not_false_eq_true, and_self, and_true, true_and, and_false, false_and]) _ _ _ hP hD hS (lv_sub hl [0, 1] rfl)
      · -- hlt False
        refine zkW (v := (-2000000003)) kCA F (zwCA hP hD hS hA) hK hX hZ (c_L_bills_k l hfl D cI cZ a H.size (B) (R) (E) (td) (n) (nI (y % 2)) (nI ((1) + ((y / 2) % (5000)))) (nI ((1) + ((y / 7) % (3)))) (nI ((y / 11) % (500))) (nI ((y / 13) % (5))) (3) ((-2000000003)) (by first | assumption | omega) (by first | assumption | omega) (bk3g (by omega) (nI_pos (by omega)) (nI_lt (b := 8) (by omega) (by decide)) (by show ¬ nI _ < 1; exact nI_nlt (b := 1) (by omega) (by omega)) (nI_le (b := 1000000) (by omega) (by decide)) (by show ¬ nI _ < 1; exact nI_nlt (b := 1) (by omega) (by omega)) (nI_le (b := 9999) (by omega) (by decide)) (nI_pos (by omega)) (nI_le (b := 10000) (by omega) (by decide)) (nI_pos (by omega)) (nI_le (b := 90) (by omega) (by decide))) (by decide) rfl) cw_bills_k (by decide) rfl rfl hl.1 rfl (Nat.le_of_ble_eq_true rfl) dL_act_142 ⟨Nat.le_of_ble_eq_true rfl, Nat.le_of_ble_eq_true rfl⟩ (fun H locs hP hD hS => ?_)
        refine W.widen (k := 1) (n := 6) (Nat.le_of_ble_eq_true rfl) (Nat.le_of_ble_eq_true rfl) ?_
        exact k145 ((-2000000003)) (B) (R) (E) (td) (by simp only [actB, actR, actA, actP, actK, actC, actS, actV, aAm, aRt, c95, c119, hlt, if_true, if_false, ite_true, ite_false, reduceIte, not_true, not_false_eq_true, and_self, and_true, true_and, and_false, false_and]) _ _ _ hP hD hS (lv_sub hl [0, 1] rfl)
    · -- 119 on
      rw [show (0 : Int32) = nI 0 from rfl] at c119
      rw [nI_eq (by omega) (by omega)] at c119
      refine lv_sipush (v := nI (10000)) hx hb dL_act_122 (by decide) ?_
      refine lv_goto (tgt := 136) hx hb dL_act_125 (by decide) ?_
      refine lv_iload_n hx hb dL_act_136 rfl (lv_at hl 1 rfl) ?_
      refine lv_bipush (v := nI (13)) hx hb dL_act_137 (by decide) ?_
      refine lv_quo (x := y) (d := 13) hx hb rfl rfl dL_act_139 (by omega) (by omega) (by omega) ?_
      refine lv_iconst (v := nI (5)) hx hb dL_act_140 (by decide) ?_
      refine lv_rem (x := y / 13) (d := 5) hx hb rfl rfl dL_act_141 (by omega) (by omega) (by omega) ?_
      by_cases hlt : n < 40
      · -- hlt True
        refine zcW (wf := fun (_ : Unit) => (wCA a cI cZ (addB B n (nI (y % 2)) (nI ((1) + ((y / 2) % (5000)))) (nI ((1) + ((y / 7) % (3)))) (dcO (nI ((1) + ((y / 2) % (5000)))) (nI (10000))) (td + (nI ((y / 13) % (5))))) R E (td))) kCA F (zwCA hP hD hS hA) hK hX hZ (c_L_bills_0 l D cI cZ a H.size (B) (R) (E) (td) (n) (nI (y % 2)) (nI ((1) + ((y / 2) % (5000)))) (nI ((1) + ((y / 7) % (3)))) (nI (10000)) (nI ((y / 13) % (5))) (by first | assumption | omega) (by first | assumption | omega) (nI_pos (by omega)) (nI_lt (b := 8) (by omega) (by decide)) (by show ¬ nI _ < 1; exact nI_nlt (b := 1) (by omega) (by omega)) (nI_le (b := 1000000) (by omega) (by decide)) (by show ¬ nI _ < 1; exact nI_nlt (b := 1) (by omega) (by omega)) (nI_le (b := 9999) (by omega) (by decide)) (nI_pos (by omega)) (nI_le (b := 10000) (by omega) (by decide)) (nI_pos (by omega)) (nI_le (b := 90) (by omega) (by decide))) cw_bills_0 (by decide) (fun _ => rfl) rfl hl.1 rfl (Nat.le_of_ble_eq_true rfl) dL_act_142 ⟨Nat.le_of_ble_eq_true rfl, Nat.le_of_ble_eq_true rfl⟩ (fun r142 u H locs hw hP hD hS => ?_)
        have hw : r142 = nI n := hw
        subst hw
        have hP : va_P D vwCl (wCA a cI cZ (addB B n (nI (y % 2)) (nI ((1) + ((y / 2) % (5000)))) (nI ((1) + ((y / 7) % (3)))) (dcO (nI ((1) + ((y / 2) % (5000)))) (nI (10000))) (td + (nI ((y / 13) % (5))))) R E (td)) H := hP
        have hD : va_D A (wCA a cI cZ (addB B n (nI (y % 2)) (nI ((1) + ((y / 2) % (5000)))) (nI ((1) + ((y / 7) % (3)))) (dcO (nI ((1) + ((y / 2) % (5000)))) (nI (10000))) (td + (nI ((y / 13) % (5))))) R E (td)) := hD
        refine W.widen (k := 1) (n := 6) (Nat.le_of_ble_eq_true rfl) (Nat.le_of_ble_eq_true rfl) ?_
        exact k145 (nI n) ((addB B n (nI (y % 2)) (nI ((1) + ((y / 2) % (5000)))) (nI ((1) + ((y / 7) % (3)))) (dcO (nI ((1) + ((y / 2) % (5000)))) (nI (10000))) (td + (nI ((y / 13) % (5)))))) (R) (E) (td) (by simp only [actB, actR, actA, actP, actK, actC, actS, actV, aAm, aRt, c95, c119, hlt, if_true, if_false, ite_true, ite_false, reduceIte, not_true, not_false_eq_true, and_self, and_true, true_and, and_false, false_and]) _ _ _ hP hD hS (lv_sub hl [0, 1] rfl)
      · -- hlt False
        refine zkW (v := (-2000000003)) kCA F (zwCA hP hD hS hA) hK hX hZ (c_L_bills_k l hfl D cI cZ a H.size (B) (R) (E) (td) (n) (nI (y % 2)) (nI ((1) + ((y / 2) % (5000)))) (nI ((1) + ((y / 7) % (3)))) (nI (10000)) (nI ((y / 13) % (5))) (3) ((-2000000003)) (by first | assumption | omega) (by first | assumption | omega) (bk3g (by omega) (nI_pos (by omega)) (nI_lt (b := 8) (by omega) (by decide)) (by show ¬ nI _ < 1; exact nI_nlt (b := 1) (by omega) (by omega)) (nI_le (b := 1000000) (by omega) (by decide)) (by show ¬ nI _ < 1; exact nI_nlt (b := 1) (by omega) (by omega)) (nI_le (b := 9999) (by omega) (by decide)) (nI_pos (by omega)) (nI_le (b := 10000) (by omega) (by decide)) (nI_pos (by omega)) (nI_le (b := 90) (by omega) (by decide))) (by decide) rfl) cw_bills_k (by decide) rfl rfl hl.1 rfl (Nat.le_of_ble_eq_true rfl) dL_act_142 ⟨Nat.le_of_ble_eq_true rfl, Nat.le_of_ble_eq_true rfl⟩ (fun H locs hP hD hS => ?_)
        refine W.widen (k := 1) (n := 6) (Nat.le_of_ble_eq_true rfl) (Nat.le_of_ble_eq_true rfl) ?_
        exact k145 ((-2000000003)) (B) (R) (E) (td) (by simp only [actB, actR, actA, actP, actK, actC, actS, actV, aAm, aRt, c95, c119, hlt, if_true, if_false, ite_true, ite_false, reduceIte, not_true, not_false_eq_true, and_self, and_true, true_and, and_false, false_and]) _ _ _ hP hD hS (lv_sub hl [0, 1] rfl)
  · -- 95 on
    rw [show (0 : Int32) = nI 0 from rfl] at c95
    rw [nI_eq (by omega) (by omega)] at c95
    refine lv_bipush (v := nI (9)) hx hb dL_act_98 (by decide) ?_
    refine lv_goto (tgt := 106) hx hb dL_act_100 (by decide) ?_
    refine lv_rem (x := y / 2) (d := 9) hx hb rfl rfl dL_act_106 (by omega) (by omega) (by omega) ?_
    refine lv_sum (x := 1) (d := (y / 2) % (9)) hx hb rfl rfl dL_act_107 ?_
    refine lv_iconst (v := nI (1)) hx hb dL_act_108 (by decide) ?_
    refine lv_iload_n hx hb dL_act_109 rfl (lv_at hl 1 rfl) ?_
    refine lv_bipush (v := nI (7)) hx hb dL_act_110 (by decide) ?_
    refine lv_quo (x := y) (d := 7) hx hb rfl rfl dL_act_112 (by omega) (by omega) (by omega) ?_
    refine lv_iconst (v := nI (3)) hx hb dL_act_113 (by decide) ?_
    refine lv_rem (x := y / 7) (d := 3) hx hb rfl rfl dL_act_114 (by omega) (by omega) (by omega) ?_
    refine lv_sum (x := 1) (d := (y / 7) % (3)) hx hb rfl rfl dL_act_115 ?_
    refine lv_iload_n hx hb dL_act_116 rfl (lv_at hl 1 rfl) ?_
    refine lv_iconst (v := nI (5)) hx hb dL_act_117 (by decide) ?_
    refine lv_rem (x := y) (d := 5) hx hb rfl rfl dL_act_118 (by omega) (by omega) (by omega) ?_
    refine lv_if_ne (tgt := 128) hx hb dL_act_119 (by decide) (fun c119 => ?_) (fun c119 => ?_)
    · -- 119 taken
      rw [show (0 : Int32) = nI 0 from rfl] at c119
      rw [nI_eq (by omega) (by omega)] at c119
      refine lv_iload_n hx hb dL_act_128 rfl (lv_at hl 1 rfl) ?_
      refine lv_bipush (v := nI (11)) hx hb dL_act_129 (by decide) ?_
      refine lv_quo (x := y) (d := 11) hx hb rfl rfl dL_act_131 (by omega) (by omega) (by omega) ?_
      refine lv_sipush (v := nI (500)) hx hb dL_act_132 (by decide) ?_
      refine lv_rem (x := y / 11) (d := 500) hx hb rfl rfl dL_act_135 (by omega) (by omega) (by omega) ?_
      refine lv_iload_n hx hb dL_act_136 rfl (lv_at hl 1 rfl) ?_
      refine lv_bipush (v := nI (13)) hx hb dL_act_137 (by decide) ?_
      refine lv_quo (x := y) (d := 13) hx hb rfl rfl dL_act_139 (by omega) (by omega) (by omega) ?_
      refine lv_iconst (v := nI (5)) hx hb dL_act_140 (by decide) ?_
      refine lv_rem (x := y / 13) (d := 5) hx hb rfl rfl dL_act_141 (by omega) (by omega) (by omega) ?_
      by_cases hlt : n < 40
      · -- hlt True
        refine zcW (wf := fun (_ : Unit) => (wCA a cI cZ (addB B n (nI (y % 2)) (nI ((1) + ((y / 2) % (9)))) (nI ((1) + ((y / 7) % (3)))) (dcO (nI ((1) + ((y / 2) % (9)))) (nI ((y / 11) % (500)))) (td + (nI ((y / 13) % (5))))) R E (td))) kCA F (zwCA hP hD hS hA) hK hX hZ (c_L_bills_0 l D cI cZ a H.size (B) (R) (E) (td) (n) (nI (y % 2)) (nI ((1) + ((y / 2) % (9)))) (nI ((1) + ((y / 7) % (3)))) (nI ((y / 11) % (500))) (nI ((y / 13) % (5))) (by first | assumption | omega) (by first | assumption | omega) (nI_pos (by omega)) (nI_lt (b := 8) (by omega) (by decide)) (by show ¬ nI _ < 1; exact nI_nlt (b := 1) (by omega) (by omega)) (nI_le (b := 1000000) (by omega) (by decide)) (by show ¬ nI _ < 1; exact nI_nlt (b := 1) (by omega) (by omega)) (nI_le (b := 9999) (by omega) (by decide)) (nI_pos (by omega)) (nI_le (b := 10000) (by omega) (by decide)) (nI_pos (by omega)) (nI_le (b := 90) (by omega) (by decide))) cw_bills_0 (by decide) (fun _ => rfl) rfl hl.1 rfl (Nat.le_of_ble_eq_true rfl) dL_act_142 ⟨Nat.le_of_ble_eq_true rfl, Nat.le_of_ble_eq_true rfl⟩ (fun r142 u H locs hw hP hD hS => ?_)
        have hw : r142 = nI n := hw
        subst hw
        have hP : va_P D vwCl (wCA a cI cZ (addB B n (nI (y % 2)) (nI ((1) + ((y / 2) % (9)))) (nI ((1) + ((y / 7) % (3)))) (dcO (nI ((1) + ((y / 2) % (9)))) (nI ((y / 11) % (500)))) (td + (nI ((y / 13) % (5))))) R E (td)) H := hP
        have hD : va_D A (wCA a cI cZ (addB B n (nI (y % 2)) (nI ((1) + ((y / 2) % (9)))) (nI ((1) + ((y / 7) % (3)))) (dcO (nI ((1) + ((y / 2) % (9)))) (nI ((y / 11) % (500)))) (td + (nI ((y / 13) % (5))))) R E (td)) := hD
        refine W.widen (k := 1) (n := 6) (Nat.le_of_ble_eq_true rfl) (Nat.le_of_ble_eq_true rfl) ?_
        exact k145 (nI n) ((addB B n (nI (y % 2)) (nI ((1) + ((y / 2) % (9)))) (nI ((1) + ((y / 7) % (3)))) (dcO (nI ((1) + ((y / 2) % (9)))) (nI ((y / 11) % (500)))) (td + (nI ((y / 13) % (5)))))) (R) (E) (td) (by simp only [actB, actR, actA, actP, actK, actC, actS, actV, aAm, aRt, c95, c119, hlt, if_true, if_false, ite_true, ite_false, reduceIte, not_true, not_false_eq_true, and_self, and_true, true_and, and_false, false_and]) _ _ _ hP hD hS (lv_sub hl [0, 1] rfl)
      · -- hlt False
        refine zkW (v := (-2000000003)) kCA F (zwCA hP hD hS hA) hK hX hZ (c_L_bills_k l hfl D cI cZ a H.size (B) (R) (E) (td) (n) (nI (y % 2)) (nI ((1) + ((y / 2) % (9)))) (nI ((1) + ((y / 7) % (3)))) (nI ((y / 11) % (500))) (nI ((y / 13) % (5))) (3) ((-2000000003)) (by first | assumption | omega) (by first | assumption | omega) (bk3g (by omega) (nI_pos (by omega)) (nI_lt (b := 8) (by omega) (by decide)) (by show ¬ nI _ < 1; exact nI_nlt (b := 1) (by omega) (by omega)) (nI_le (b := 1000000) (by omega) (by decide)) (by show ¬ nI _ < 1; exact nI_nlt (b := 1) (by omega) (by omega)) (nI_le (b := 9999) (by omega) (by decide)) (nI_pos (by omega)) (nI_le (b := 10000) (by omega) (by decide)) (nI_pos (by omega)) (nI_le (b := 90) (by omega) (by decide))) (by decide) rfl) cw_bills_k (by decide) rfl rfl hl.1 rfl (Nat.le_of_ble_eq_true rfl) dL_act_142 ⟨Nat.le_of_ble_eq_true rfl, Nat.le_of_ble_eq_true rfl⟩ (fun H locs hP hD hS => ?_)
        refine W.widen (k := 1) (n := 6) (Nat.le_of_ble_eq_true rfl) (Nat.le_of_ble_eq_true rfl) ?_
        exact k145 ((-2000000003)) (B) (R) (E) (td) (by simp only [actB, actR, actA, actP, actK, actC, actS, actV, aAm, aRt, c95, c119, hlt, if_true, if_false, ite_true, ite_false, reduceIte, not_true, not_false_eq_true, and_self, and_true, true_and, and_false, false_and]) _ _ _ hP hD hS (lv_sub hl [0, 1] rfl)
    · -- 119 on
      rw [show (0 : Int32) = nI 0 from rfl] at c119
      rw [nI_eq (by omega) (by omega)] at c119
      refine lv_sipush (v := nI (10000)) hx hb dL_act_122 (by decide) ?_
      refine lv_goto (tgt := 136) hx hb dL_act_125 (by decide) ?_
      refine lv_iload_n hx hb dL_act_136 rfl (lv_at hl 1 rfl) ?_
      refine lv_bipush (v := nI (13)) hx hb dL_act_137 (by decide) ?_
      refine lv_quo (x := y) (d := 13) hx hb rfl rfl dL_act_139 (by omega) (by omega) (by omega) ?_
      refine lv_iconst (v := nI (5)) hx hb dL_act_140 (by decide) ?_
      refine lv_rem (x := y / 13) (d := 5) hx hb rfl rfl dL_act_141 (by omega) (by omega) (by omega) ?_
      by_cases hlt : n < 40
      · -- hlt True
        refine zcW (wf := fun (_ : Unit) => (wCA a cI cZ (addB B n (nI (y % 2)) (nI ((1) + ((y / 2) % (9)))) (nI ((1) + ((y / 7) % (3)))) (dcO (nI ((1) + ((y / 2) % (9)))) (nI (10000))) (td + (nI ((y / 13) % (5))))) R E (td))) kCA F (zwCA hP hD hS hA) hK hX hZ (c_L_bills_0 l D cI cZ a H.size (B) (R) (E) (td) (n) (nI (y % 2)) (nI ((1) + ((y / 2) % (9)))) (nI ((1) + ((y / 7) % (3)))) (nI (10000)) (nI ((y / 13) % (5))) (by first | assumption | omega) (by first | assumption | omega) (nI_pos (by omega)) (nI_lt (b := 8) (by omega) (by decide)) (by show ¬ nI _ < 1; exact nI_nlt (b := 1) (by omega) (by omega)) (nI_le (b := 1000000) (by omega) (by decide)) (by show ¬ nI _ < 1; exact nI_nlt (b := 1) (by omega) (by omega)) (nI_le (b := 9999) (by omega) (by decide)) (nI_pos (by omega)) (nI_le (b := 10000) (by omega) (by decide)) (nI_pos (by omega)) (nI_le (b := 90) (by omega) (by decide))) cw_bills_0 (by decide) (fun _ => rfl) rfl hl.1 rfl (Nat.le_of_ble_eq_true rfl) dL_act_142 ⟨Nat.le_of_ble_eq_true rfl, Nat.le_of_ble_eq_true rfl⟩ (fun r142 u H locs hw hP hD hS => ?_)
        have hw : r142 = nI n := hw
        subst hw
        have hP : va_P D vwCl (wCA a cI cZ (addB B n (nI (y % 2)) (nI ((1) + ((y / 2) % (9)))) (nI ((1) + ((y / 7) % (3)))) (dcO (nI ((1) + ((y / 2) % (9)))) (nI (10000))) (td + (nI ((y / 13) % (5))))) R E (td)) H := hP
        have hD : va_D A (wCA a cI cZ (addB B n (nI (y % 2)) (nI ((1) + ((y / 2) % (9)))) (nI ((1) + ((y / 7) % (3)))) (dcO (nI ((1) + ((y / 2) % (9)))) (nI (10000))) (td + (nI ((y / 13) % (5))))) R E (td)) := hD
        refine W.widen (k := 1) (n := 6) (Nat.le_of_ble_eq_true rfl) (Nat.le_of_ble_eq_true rfl) ?_
        exact k145 (nI n) ((addB B n (nI (y % 2)) (nI ((1) + ((y / 2) % (9)))) (nI ((1) + ((y / 7) % (3)))) (dcO (nI ((1) + ((y / 2) % (9)))) (nI (10000))) (td + (nI ((y / 13) % (5)))))) (R) (E) (td) (by simp only [actB, actR, actA, actP, actK, actC, actS, actV, aAm, aRt, c95, c119, hlt, if_true, if_false, ite_true, ite_false, reduceIte, not_true, not_false_eq_true, and_self, and_true, true_and, and_false, false_and]) _ _ _ hP hD hS (lv_sub hl [0, 1] rfl)
      · -- hlt False
        refine zkW (v := (-2000000003)) kCA F (zwCA hP hD hS hA) hK hX hZ (c_L_bills_k l hfl D cI cZ a H.size (B) (R) (E) (td) (n) (nI (y % 2)) (nI ((1) + ((y / 2) % (9)))) (nI ((1) + ((y / 7) % (3)))) (nI (10000)) (nI ((y / 13) % (5))) (3) ((-2000000003)) (by first | assumption | omega) (by first | assumption | omega) (bk3g (by omega) (nI_pos (by omega)) (nI_lt (b := 8) (by omega) (by decide)) (by show ¬ nI _ < 1; exact nI_nlt (b := 1) (by omega) (by omega)) (nI_le (b := 1000000) (by omega) (by decide)) (by show ¬ nI _ < 1; exact nI_nlt (b := 1) (by omega) (by omega)) (nI_le (b := 9999) (by omega) (by decide)) (nI_pos (by omega)) (nI_le (b := 10000) (by omega) (by decide)) (nI_pos (by omega)) (nI_le (b := 90) (by omega) (by decide))) (by decide) rfl) cw_bills_k (by decide) rfl rfl hl.1 rfl (Nat.le_of_ble_eq_true rfl) dL_act_142 ⟨Nat.le_of_ble_eq_true rfl, Nat.le_of_ble_eq_true rfl⟩ (fun H locs hP hD hS => ?_)
        refine W.widen (k := 1) (n := 6) (Nat.le_of_ble_eq_true rfl) (Nat.le_of_ble_eq_true rfl) ?_
        exact k145 ((-2000000003)) (B) (R) (E) (td) (by simp only [actB, actR, actA, actP, actK, actC, actS, actV, aAm, aRt, c95, c119, hlt, if_true, if_false, ite_true, ite_false, reduceIte, not_true, not_false_eq_true, and_self, and_true, true_and, and_false, false_and]) _ _ _ hP hD hS (lv_sub hl [0, 1] rfl)
set_option maxHeartbeats 8000000 in
set_option maxRecDepth 100000 in
theorem ac_r {p : Program} {l : Launch} {e : Env} {s : State} {m : MethodId} {args : Array Value} {below : List Frame} {meth : Method} {c : Code} {Q : State → Prop} {D : va_G} {A : Nat → Prop} {cI cZ : ClassId} {a : Nat → Nat} {B R E : Nat → Nat → Int32} {td : Int32} {H : Heap} {locs : List Loc} {ls : Array Slot} (n : Nat) (q : Nat) (y : Nat) (F : CallFix p m c cL_act 5 s args wsL_act RL) (hK : va_K D vwCl (tyl cI cZ) s) (hA : ∀ q : Nat, s.heap.size ≤ q → A q) (hX : ExB s) (hZ : ExZ A s s.heap) (hfl : l.stackTraces = false) (hB : B 11 0 = nI n) (hn : n ≤ 40) (hR : R 8 0 = nI q) (hq : q ≤ 30) (I7 : ∀ j, R 7 j = 0 ∨ R 7 j = 1) (hy : y < 134217728) (hP : va_P D vwCl (wCA a cI cZ B R E (td)) H) (hD : va_D A (wCA a cI cZ B R E (td))) (hS : va_S A s.heap H locs) (hl : lv_has ls 5 [(0, .ref (a 0)), (2, .int (nI (y)))])
    (k179 : ∀ (r : Int32) (B' : Nat → Nat → Int32) (R' : Nat → Nat → Int32) (E' : Nat → Nat → Int32) (td' : Int32) (hres : actR B R E td n q y (nI (y % 2)) = (r, B', R', E', td')) (H : Heap) (locs : List Loc) (ls : Array Slot), va_P D vwCl (wCA a cI cZ B' R' E' (td')) H → va_D A (wCA a cI cZ B' R' E' (td')) → va_S A s.heap H locs → lv_has ls 5 [(0, .ref (a 0)), (2, .int (nI (y)))] → W p l e ({ frames := 9, cells := 1, slots := 6, locals := 184 } : Room) s m args below meth c H locs 1 6 Q (F0 m 179 ls [.int (r)])) :
    W p l e ({ frames := 9, cells := 1, slots := 6, locals := 184 } : Room) s m args below meth c H locs 0 0 Q (F0 m 146 ls []) := by
  obtain ⟨hx, hb, hml, hown, hts⟩ := id F
  have cw_receives_0 : vx_CSW ({ frames := 9, cells := 1, slots := 6, locals := 184 } : Room) s args RL 99 yL_receives cL_receives 5 (some .int) [(0, 7, 8, 13), (0, 7, 13, 16), (0, 7, 18, 19)] wsL_receives ({ frames := 7, cells := 0, slots := 0, locals := 160 } : Room) 0 0 4 := vx_cwSW 4 hts gL_act_L_receives rfl rfl rfl (by decide +kernel) ⟨Nat.le_of_ble_eq_true rfl, Nat.le_of_ble_eq_true rfl⟩
  have cw_receives_k : vx_CSW ({ frames := 9, cells := 1, slots := 6, locals := 184 } : Room) s args RL 99 yL_receives cL_receives 5 (some .int) [(0, 7, 8, 13), (0, 7, 13, 16), (0, 7, 18, 19)] wsL_receives ({ frames := 8, cells := 1, slots := 6, locals := 160 } : Room) 1 6 4 := vx_cwSW 4 hts gL_act_L_receives rfl rfl rfl (by decide +kernel) ⟨Nat.le_of_ble_eq_true rfl, Nat.le_of_ble_eq_true rfl⟩
  refine lv_aload_n hx hb dL_act_146 rfl (lv_at hl 0 rfl) ?_
  refine lv_iload_n hx hb dL_act_147 rfl (lv_at hl 1 rfl) ?_
  refine lv_iconst (v := nI (2)) hx hb dL_act_148 (by decide) ?_
  refine lv_rem (x := y) (d := 2) hx hb rfl rfl dL_act_149 (by omega) (by omega) (by omega) ?_
  refine lv_iconst (v := nI (1)) hx hb dL_act_150 (by decide) ?_
  refine lv_iload_n hx hb dL_act_151 rfl (lv_at hl 1 rfl) ?_
  refine lv_iconst (v := nI (2)) hx hb dL_act_152 (by decide) ?_
  refine lv_quo (x := y) (d := 2) hx hb rfl rfl dL_act_153 (by omega) (by omega) (by omega) ?_
  refine lv_iload_n hx hb dL_act_154 rfl (lv_at hl 1 rfl) ?_
  refine lv_iconst (v := nI (3)) hx hb dL_act_155 (by decide) ?_
  refine lv_rem (x := y) (d := 3) hx hb rfl rfl dL_act_156 (by omega) (by omega) (by omega) ?_
  refine lv_if_ne (tgt := 165) hx hb dL_act_157 (by decide) (fun c157 => ?_) (fun c157 => ?_)
  · -- 157 taken
    rw [show (0 : Int32) = nI 0 from rfl] at c157
    rw [nI_eq (by omega) (by omega)] at c157
    refine lv_sipush (v := nI (6000)) hx hb dL_act_165 (by decide) ?_
    refine lv_rem (x := y / 2) (d := 6000) hx hb rfl rfl dL_act_168 (by omega) (by omega) (by omega) ?_
    refine lv_sum (x := 1) (d := (y / 2) % (6000)) hx hb rfl rfl dL_act_169 ?_
    refine lv_iload_n hx hb dL_act_170 rfl (lv_at hl 1 rfl) ?_
    refine lv_bipush (v := nI (7)) hx hb dL_act_171 (by decide) ?_
    refine lv_quo (x := y) (d := 7) hx hb rfl rfl dL_act_173 (by omega) (by omega) (by omega) ?_
    refine lv_iconst (v := nI (4)) hx hb dL_act_174 (by decide) ?_
    refine lv_rem (x := y / 7) (d := 4) hx hb rfl rfl dL_act_175 (by omega) (by omega) (by omega) ?_
    by_cases hlt : q < 30
    · -- hlt True
      refine zcW (wf := fun (_ : Unit) => (wCA a cI cZ ((rcvS B R E q (nI (y % 2)) (nI ((1) + ((y / 2) % (6000)))) (nI ((y / 7) % (4))) n td).1) ((rcvS B R E q (nI (y % 2)) (nI ((1) + ((y / 2) % (6000)))) (nI ((y / 7) % (4))) n td).2.1) ((rcvS B R E q (nI (y % 2)) (nI ((1) + ((y / 2) % (6000)))) (nI ((y / 7) % (4))) n td).2.2) (td))) kCA F (zwCA hP hD hS hA) hK hX hZ (c_L_receives_0 l D cI cZ a H.size (B) (R) (E) (td) (n) (q) (nI (y % 2)) (nI ((1) + ((y / 2) % (6000)))) (nI ((y / 7) % (4))) (by first | assumption | omega) (by first | assumption | omega) (by first | assumption | omega) (by first | assumption | omega) (Or.inr ⟨nI_pos (by omega), nI_lt (b := 8) (by omega) (by decide)⟩) (by show ¬ nI _ < 1; exact nI_nlt (b := 1) (by omega) (by omega)) (nI_le (b := 1000000) (by omega) (by decide)) (nI_pos (by omega)) (nI_le (b := 9999) (by omega) (by decide))) cw_receives_0 (by decide) (fun _ => rfl) rfl hl.1 rfl (Nat.le_of_ble_eq_true rfl) dL_act_176 ⟨Nat.le_of_ble_eq_true rfl, Nat.le_of_ble_eq_true rfl⟩ (fun r176 u H locs hw hP hD hS => ?_)
      have hw : r176 = nI q := hw
      subst hw
      have hP : va_P D vwCl (wCA a cI cZ ((rcvS B R E q (nI (y % 2)) (nI ((1) + ((y / 2) % (6000)))) (nI ((y / 7) % (4))) n td).1) ((rcvS B R E q (nI (y % 2)) (nI ((1) + ((y / 2) % (6000)))) (nI ((y / 7) % (4))) n td).2.1) ((rcvS B R E q (nI (y % 2)) (nI ((1) + ((y / 2) % (6000)))) (nI ((y / 7) % (4))) n td).2.2) (td)) H := hP
      have hD : va_D A (wCA a cI cZ ((rcvS B R E q (nI (y % 2)) (nI ((1) + ((y / 2) % (6000)))) (nI ((y / 7) % (4))) n td).1) ((rcvS B R E q (nI (y % 2)) (nI ((1) + ((y / 2) % (6000)))) (nI ((y / 7) % (4))) n td).2.1) ((rcvS B R E q (nI (y % 2)) (nI ((1) + ((y / 2) % (6000)))) (nI ((y / 7) % (4))) n td).2.2) (td)) := hD
      refine W.widen (k := 1) (n := 6) (Nat.le_of_ble_eq_true rfl) (Nat.le_of_ble_eq_true rfl) ?_
      exact k179 (nI q) (((rcvS B R E q (nI (y % 2)) (nI ((1) + ((y / 2) % (6000)))) (nI ((y / 7) % (4))) n td).1)) (((rcvS B R E q (nI (y % 2)) (nI ((1) + ((y / 2) % (6000)))) (nI ((y / 7) % (4))) n td).2.1)) (((rcvS B R E q (nI (y % 2)) (nI ((1) + ((y / 2) % (6000)))) (nI ((y / 7) % (4))) n td).2.2)) (td) (by simp only [actB, actR, actA, actP, actK, actC, actS, actV, aAm, aRt, c157, hlt, if_true, if_false, ite_true, ite_false, reduceIte, not_true, not_false_eq_true, and_self, and_true, true_and, and_false, false_and]) _ _ _ hP hD hS (lv_sub hl [0, 1] rfl)
    · -- hlt False
      refine zkW (v := (-2000000003)) kCA F (zwCA hP hD hS hA) hK hX hZ (c_L_receives_k l hfl D cI cZ a H.size (B) (R) (E) (td) (q) (nI (y % 2)) (nI ((1) + ((y / 2) % (6000)))) (nI ((y / 7) % (4))) (3) ((-2000000003)) (by first | assumption | omega) (by first | assumption | omega) (rk3g (by omega) (Or.inr ⟨nI_pos (by omega), nI_lt (b := 8) (by omega) (by decide)⟩) (by show ¬ nI _ < 1; exact nI_nlt (b := 1) (by omega) (by omega)) (nI_le (b := 1000000) (by omega) (by decide)) (nI_pos (by omega)) (nI_le (b := 9999) (by omega) (by decide))) (by decide) rfl) cw_receives_k (by decide) rfl rfl hl.1 rfl (Nat.le_of_ble_eq_true rfl) dL_act_176 ⟨Nat.le_of_ble_eq_true rfl, Nat.le_of_ble_eq_true rfl⟩ (fun H locs hP hD hS => ?_)
      refine W.widen (k := 1) (n := 6) (Nat.le_of_ble_eq_true rfl) (Nat.le_of_ble_eq_true rfl) ?_
      exact k179 ((-2000000003)) (B) (R) (E) (td) (by simp only [actB, actR, actA, actP, actK, actC, actS, actV, aAm, aRt, c157, hlt, if_true, if_false, ite_true, ite_false, reduceIte, not_true, not_false_eq_true, and_self, and_true, true_and, and_false, false_and]) _ _ _ hP hD hS (lv_sub hl [0, 1] rfl)
  · -- 157 on
    rw [show (0 : Int32) = nI 0 from rfl] at c157
    rw [nI_eq (by omega) (by omega)] at c157
    refine lv_bipush (v := nI (20)) hx hb dL_act_160 (by decide) ?_
    refine lv_goto (tgt := 168) hx hb dL_act_162 (by decide) ?_
    refine lv_rem (x := y / 2) (d := 20) hx hb rfl rfl dL_act_168 (by omega) (by omega) (by omega) ?_
    refine lv_sum (x := 1) (d := (y / 2) % (20)) hx hb rfl rfl dL_act_169 ?_
    refine lv_iload_n hx hb dL_act_170 rfl (lv_at hl 1 rfl) ?_
    refine lv_bipush (v := nI (7)) hx hb dL_act_171 (by decide) ?_
    refine lv_quo (x := y) (d := 7) hx hb rfl rfl dL_act_173 (by omega) (by omega) (by omega) ?_
    refine lv_iconst (v := nI (4)) hx hb dL_act_174 (by decide) ?_
    refine lv_rem (x := y / 7) (d := 4) hx hb rfl rfl dL_act_175 (by omega) (by omega) (by omega) ?_
    by_cases hlt : q < 30
    · -- hlt True
      refine zcW (wf := fun (_ : Unit) => (wCA a cI cZ ((rcvS B R E q (nI (y % 2)) (nI ((1) + ((y / 2) % (20)))) (nI ((y / 7) % (4))) n td).1) ((rcvS B R E q (nI (y % 2)) (nI ((1) + ((y / 2) % (20)))) (nI ((y / 7) % (4))) n td).2.1) ((rcvS B R E q (nI (y % 2)) (nI ((1) + ((y / 2) % (20)))) (nI ((y / 7) % (4))) n td).2.2) (td))) kCA F (zwCA hP hD hS hA) hK hX hZ (c_L_receives_0 l D cI cZ a H.size (B) (R) (E) (td) (n) (q) (nI (y % 2)) (nI ((1) + ((y / 2) % (20)))) (nI ((y / 7) % (4))) (by first | assumption | omega) (by first | assumption | omega) (by first | assumption | omega) (by first | assumption | omega) (Or.inr ⟨nI_pos (by omega), nI_lt (b := 8) (by omega) (by decide)⟩) (by show ¬ nI _ < 1; exact nI_nlt (b := 1) (by omega) (by omega)) (nI_le (b := 1000000) (by omega) (by decide)) (nI_pos (by omega)) (nI_le (b := 9999) (by omega) (by decide))) cw_receives_0 (by decide) (fun _ => rfl) rfl hl.1 rfl (Nat.le_of_ble_eq_true rfl) dL_act_176 ⟨Nat.le_of_ble_eq_true rfl, Nat.le_of_ble_eq_true rfl⟩ (fun r176 u H locs hw hP hD hS => ?_)
      have hw : r176 = nI q := hw
      subst hw
      have hP : va_P D vwCl (wCA a cI cZ ((rcvS B R E q (nI (y % 2)) (nI ((1) + ((y / 2) % (20)))) (nI ((y / 7) % (4))) n td).1) ((rcvS B R E q (nI (y % 2)) (nI ((1) + ((y / 2) % (20)))) (nI ((y / 7) % (4))) n td).2.1) ((rcvS B R E q (nI (y % 2)) (nI ((1) + ((y / 2) % (20)))) (nI ((y / 7) % (4))) n td).2.2) (td)) H := hP
      have hD : va_D A (wCA a cI cZ ((rcvS B R E q (nI (y % 2)) (nI ((1) + ((y / 2) % (20)))) (nI ((y / 7) % (4))) n td).1) ((rcvS B R E q (nI (y % 2)) (nI ((1) + ((y / 2) % (20)))) (nI ((y / 7) % (4))) n td).2.1) ((rcvS B R E q (nI (y % 2)) (nI ((1) + ((y / 2) % (20)))) (nI ((y / 7) % (4))) n td).2.2) (td)) := hD
      refine W.widen (k := 1) (n := 6) (Nat.le_of_ble_eq_true rfl) (Nat.le_of_ble_eq_true rfl) ?_
      exact k179 (nI q) (((rcvS B R E q (nI (y % 2)) (nI ((1) + ((y / 2) % (20)))) (nI ((y / 7) % (4))) n td).1)) (((rcvS B R E q (nI (y % 2)) (nI ((1) + ((y / 2) % (20)))) (nI ((y / 7) % (4))) n td).2.1)) (((rcvS B R E q (nI (y % 2)) (nI ((1) + ((y / 2) % (20)))) (nI ((y / 7) % (4))) n td).2.2)) (td) (by simp only [actB, actR, actA, actP, actK, actC, actS, actV, aAm, aRt, c157, hlt, if_true, if_false, ite_true, ite_false, reduceIte, not_true, not_false_eq_true, and_self, and_true, true_and, and_false, false_and]) _ _ _ hP hD hS (lv_sub hl [0, 1] rfl)
    · -- hlt False
      refine zkW (v := (-2000000003)) kCA F (zwCA hP hD hS hA) hK hX hZ (c_L_receives_k l hfl D cI cZ a H.size (B) (R) (E) (td) (q) (nI (y % 2)) (nI ((1) + ((y / 2) % (20)))) (nI ((y / 7) % (4))) (3) ((-2000000003)) (by first | assumption | omega) (by first | assumption | omega) (rk3g (by omega) (Or.inr ⟨nI_pos (by omega), nI_lt (b := 8) (by omega) (by decide)⟩) (by show ¬ nI _ < 1; exact nI_nlt (b := 1) (by omega) (by omega)) (nI_le (b := 1000000) (by omega) (by decide)) (nI_pos (by omega)) (nI_le (b := 9999) (by omega) (by decide))) (by decide) rfl) cw_receives_k (by decide) rfl rfl hl.1 rfl (Nat.le_of_ble_eq_true rfl) dL_act_176 ⟨Nat.le_of_ble_eq_true rfl, Nat.le_of_ble_eq_true rfl⟩ (fun H locs hP hD hS => ?_)
      refine W.widen (k := 1) (n := 6) (Nat.le_of_ble_eq_true rfl) (Nat.le_of_ble_eq_true rfl) ?_
      exact k179 ((-2000000003)) (B) (R) (E) (td) (by simp only [actB, actR, actA, actP, actK, actC, actS, actV, aAm, aRt, c157, hlt, if_true, if_false, ite_true, ite_false, reduceIte, not_true, not_false_eq_true, and_self, and_true, true_and, and_false, false_and]) _ _ _ hP hD hS (lv_sub hl [0, 1] rfl)
set_option maxHeartbeats 8000000 in
set_option maxRecDepth 100000 in
theorem ac_u {p : Program} {l : Launch} {e : Env} {s : State} {m : MethodId} {args : Array Value} {below : List Frame} {meth : Method} {c : Code} {Q : State → Prop} {D : va_G} {A : Nat → Prop} {cI cZ : ClassId} {a : Nat → Nat} {B R E : Nat → Nat → Int32} {td : Int32} {H : Heap} {locs : List Loc} {ls : Array Slot} (n : Nat) (q : Nat) (y : Nat) (F : CallFix p m c cL_act 5 s args wsL_act RL) (hK : va_K D vwCl (tyl cI cZ) s) (hA : ∀ q : Nat, s.heap.size ≤ q → A q) (hX : ExB s) (hZ : ExZ A s s.heap) (hfl : l.stackTraces = false) (hB : B 11 0 = nI n) (hn : n ≤ 40) (hR : R 8 0 = nI q) (hq : q ≤ 30) (I7 : ∀ j, R 7 j = 0 ∨ R 7 j = 1) (hy : y < 134217728) (hP : va_P D vwCl (wCA a cI cZ B R E (td)) H) (hD : va_D A (wCA a cI cZ B R E (td))) (hS : va_S A s.heap H locs) (hl : lv_has ls 5 [(0, .ref (a 0)), (2, .int (nI (y)))])
    (k211 : ∀ (r : Int32) (B' : Nat → Nat → Int32) (R' : Nat → Nat → Int32) (E' : Nat → Nat → Int32) (td' : Int32) (hres : actR B R E td n q y (-1) = (r, B', R', E', td')) (H : Heap) (locs : List Loc) (ls : Array Slot), va_P D vwCl (wCA a cI cZ B' R' E' (td')) H → va_D A (wCA a cI cZ B' R' E' (td')) → va_S A s.heap H locs → lv_has ls 5 [(0, .ref (a 0)), (2, .int (nI (y)))] → W p l e ({ frames := 9, cells := 1, slots := 6, locals := 184 } : Room) s m args below meth c H locs 1 6 Q (F0 m 211 ls [.int (r)])) :
    W p l e ({ frames := 9, cells := 1, slots := 6, locals := 184 } : Room) s m args below meth c H locs 0 0 Q (F0 m 180 ls []) := by
  obtain ⟨hx, hb, hml, hown, hts⟩ := id F
  have cw_receives_0 : vx_CSW ({ frames := 9, cells := 1, slots := 6, locals := 184 } : Room) s args RL 99 yL_receives cL_receives 5 (some .int) [(0, 7, 8, 13), (0, 7, 13, 16), (0, 7, 18, 19)] wsL_receives ({ frames := 7, cells := 0, slots := 0, locals := 160 } : Room) 0 0 4 := vx_cwSW 4 hts gL_act_L_receives rfl rfl rfl (by decide +kernel) ⟨Nat.le_of_ble_eq_true rfl, Nat.le_of_ble_eq_true rfl⟩
  have cw_receives_k : vx_CSW ({ frames := 9, cells := 1, slots := 6, locals := 184 } : Room) s args RL 99 yL_receives cL_receives 5 (some .int) [(0, 7, 8, 13), (0, 7, 13, 16), (0, 7, 18, 19)] wsL_receives ({ frames := 8, cells := 1, slots := 6, locals := 160 } : Room) 1 6 4 := vx_cwSW 4 hts gL_act_L_receives rfl rfl rfl (by decide +kernel) ⟨Nat.le_of_ble_eq_true rfl, Nat.le_of_ble_eq_true rfl⟩
  refine lv_aload_n hx hb dL_act_180 rfl (lv_at hl 0 rfl) ?_
  refine lv_iconst (v := (-1)) hx hb dL_act_181 (by decide) ?_
  refine lv_iconst (v := nI (1)) hx hb dL_act_182 (by decide) ?_
  refine lv_iload_n hx hb dL_act_183 rfl (lv_at hl 1 rfl) ?_
  refine lv_iconst (v := nI (2)) hx hb dL_act_184 (by decide) ?_
  refine lv_quo (x := y) (d := 2) hx hb rfl rfl dL_act_185 (by omega) (by omega) (by omega) ?_
  refine lv_iload_n hx hb dL_act_186 rfl (lv_at hl 1 rfl) ?_
  refine lv_iconst (v := nI (3)) hx hb dL_act_187 (by decide) ?_
  refine lv_rem (x := y) (d := 3) hx hb rfl rfl dL_act_188 (by omega) (by omega) (by omega) ?_
  refine lv_if_ne (tgt := 197) hx hb dL_act_189 (by decide) (fun c189 => ?_) (fun c189 => ?_)
  · -- 189 taken
    rw [show (0 : Int32) = nI 0 from rfl] at c189
    rw [nI_eq (by omega) (by omega)] at c189
    refine lv_sipush (v := nI (6000)) hx hb dL_act_197 (by decide) ?_
    refine lv_rem (x := y / 2) (d := 6000) hx hb rfl rfl dL_act_200 (by omega) (by omega) (by omega) ?_
    refine lv_sum (x := 1) (d := (y / 2) % (6000)) hx hb rfl rfl dL_act_201 ?_
    refine lv_iload_n hx hb dL_act_202 rfl (lv_at hl 1 rfl) ?_
    refine lv_bipush (v := nI (7)) hx hb dL_act_203 (by decide) ?_
    refine lv_quo (x := y) (d := 7) hx hb rfl rfl dL_act_205 (by omega) (by omega) (by omega) ?_
    refine lv_iconst (v := nI (4)) hx hb dL_act_206 (by decide) ?_
    refine lv_rem (x := y / 7) (d := 4) hx hb rfl rfl dL_act_207 (by omega) (by omega) (by omega) ?_
    by_cases hlt : q < 30
    · -- hlt True
      refine zcW (wf := fun (_ : Unit) => (wCA a cI cZ ((rcvS B R E q ((-1)) (nI ((1) + ((y / 2) % (6000)))) (nI ((y / 7) % (4))) n td).1) ((rcvS B R E q ((-1)) (nI ((1) + ((y / 2) % (6000)))) (nI ((y / 7) % (4))) n td).2.1) ((rcvS B R E q ((-1)) (nI ((1) + ((y / 2) % (6000)))) (nI ((y / 7) % (4))) n td).2.2) (td))) kCA F (zwCA hP hD hS hA) hK hX hZ (c_L_receives_0 l D cI cZ a H.size (B) (R) (E) (td) (n) (q) ((-1)) (nI ((1) + ((y / 2) % (6000)))) (nI ((y / 7) % (4))) (by first | assumption | omega) (by first | assumption | omega) (by first | assumption | omega) (by first | assumption | omega) (Or.inl rfl) (by show ¬ nI _ < 1; exact nI_nlt (b := 1) (by omega) (by omega)) (nI_le (b := 1000000) (by omega) (by decide)) (nI_pos (by omega)) (nI_le (b := 9999) (by omega) (by decide))) cw_receives_0 (by decide) (fun _ => rfl) rfl hl.1 rfl (Nat.le_of_ble_eq_true rfl) dL_act_208 ⟨Nat.le_of_ble_eq_true rfl, Nat.le_of_ble_eq_true rfl⟩ (fun r208 u H locs hw hP hD hS => ?_)
      have hw : r208 = nI q := hw
      subst hw
      have hP : va_P D vwCl (wCA a cI cZ ((rcvS B R E q ((-1)) (nI ((1) + ((y / 2) % (6000)))) (nI ((y / 7) % (4))) n td).1) ((rcvS B R E q ((-1)) (nI ((1) + ((y / 2) % (6000)))) (nI ((y / 7) % (4))) n td).2.1) ((rcvS B R E q ((-1)) (nI ((1) + ((y / 2) % (6000)))) (nI ((y / 7) % (4))) n td).2.2) (td)) H := hP
      have hD : va_D A (wCA a cI cZ ((rcvS B R E q ((-1)) (nI ((1) + ((y / 2) % (6000)))) (nI ((y / 7) % (4))) n td).1) ((rcvS B R E q ((-1)) (nI ((1) + ((y / 2) % (6000)))) (nI ((y / 7) % (4))) n td).2.1) ((rcvS B R E q ((-1)) (nI ((1) + ((y / 2) % (6000)))) (nI ((y / 7) % (4))) n td).2.2) (td)) := hD
      refine W.widen (k := 1) (n := 6) (Nat.le_of_ble_eq_true rfl) (Nat.le_of_ble_eq_true rfl) ?_
      exact k211 (nI q) (((rcvS B R E q ((-1)) (nI ((1) + ((y / 2) % (6000)))) (nI ((y / 7) % (4))) n td).1)) (((rcvS B R E q ((-1)) (nI ((1) + ((y / 2) % (6000)))) (nI ((y / 7) % (4))) n td).2.1)) (((rcvS B R E q ((-1)) (nI ((1) + ((y / 2) % (6000)))) (nI ((y / 7) % (4))) n td).2.2)) (td) (by simp only [actB, actR, actA, actP, actK, actC, actS, actV, aAm, aRt, c189, hlt, if_true, if_false, ite_true, ite_false, reduceIte, not_true, not_false_eq_true, and_self, and_true, true_and, and_false, false_and]) _ _ _ hP hD hS (lv_sub hl [0, 1] rfl)
    · -- hlt False
      refine zkW (v := (-2000000003)) kCA F (zwCA hP hD hS hA) hK hX hZ (c_L_receives_k l hfl D cI cZ a H.size (B) (R) (E) (td) (q) ((-1)) (nI ((1) + ((y / 2) % (6000)))) (nI ((y / 7) % (4))) (3) ((-2000000003)) (by first | assumption | omega) (by first | assumption | omega) (rk3g (by omega) (Or.inl rfl) (by show ¬ nI _ < 1; exact nI_nlt (b := 1) (by omega) (by omega)) (nI_le (b := 1000000) (by omega) (by decide)) (nI_pos (by omega)) (nI_le (b := 9999) (by omega) (by decide))) (by decide) rfl) cw_receives_k (by decide) rfl rfl hl.1 rfl (Nat.le_of_ble_eq_true rfl) dL_act_208 ⟨Nat.le_of_ble_eq_true rfl, Nat.le_of_ble_eq_true rfl⟩ (fun H locs hP hD hS => ?_)
      refine W.widen (k := 1) (n := 6) (Nat.le_of_ble_eq_true rfl) (Nat.le_of_ble_eq_true rfl) ?_
      exact k211 ((-2000000003)) (B) (R) (E) (td) (by simp only [actB, actR, actA, actP, actK, actC, actS, actV, aAm, aRt, c189, hlt, if_true, if_false, ite_true, ite_false, reduceIte, not_true, not_false_eq_true, and_self, and_true, true_and, and_false, false_and]) _ _ _ hP hD hS (lv_sub hl [0, 1] rfl)
  · -- 189 on
    rw [show (0 : Int32) = nI 0 from rfl] at c189
    rw [nI_eq (by omega) (by omega)] at c189
    refine lv_bipush (v := nI (20)) hx hb dL_act_192 (by decide) ?_
    refine lv_goto (tgt := 200) hx hb dL_act_194 (by decide) ?_
    refine lv_rem (x := y / 2) (d := 20) hx hb rfl rfl dL_act_200 (by omega) (by omega) (by omega) ?_
    refine lv_sum (x := 1) (d := (y / 2) % (20)) hx hb rfl rfl dL_act_201 ?_
    refine lv_iload_n hx hb dL_act_202 rfl (lv_at hl 1 rfl) ?_
    refine lv_bipush (v := nI (7)) hx hb dL_act_203 (by decide) ?_
    refine lv_quo (x := y) (d := 7) hx hb rfl rfl dL_act_205 (by omega) (by omega) (by omega) ?_
    refine lv_iconst (v := nI (4)) hx hb dL_act_206 (by decide) ?_
    refine lv_rem (x := y / 7) (d := 4) hx hb rfl rfl dL_act_207 (by omega) (by omega) (by omega) ?_
    by_cases hlt : q < 30
    · -- hlt True
      refine zcW (wf := fun (_ : Unit) => (wCA a cI cZ ((rcvS B R E q ((-1)) (nI ((1) + ((y / 2) % (20)))) (nI ((y / 7) % (4))) n td).1) ((rcvS B R E q ((-1)) (nI ((1) + ((y / 2) % (20)))) (nI ((y / 7) % (4))) n td).2.1) ((rcvS B R E q ((-1)) (nI ((1) + ((y / 2) % (20)))) (nI ((y / 7) % (4))) n td).2.2) (td))) kCA F (zwCA hP hD hS hA) hK hX hZ (c_L_receives_0 l D cI cZ a H.size (B) (R) (E) (td) (n) (q) ((-1)) (nI ((1) + ((y / 2) % (20)))) (nI ((y / 7) % (4))) (by first | assumption | omega) (by first | assumption | omega) (by first | assumption | omega) (by first | assumption | omega) (Or.inl rfl) (by show ¬ nI _ < 1; exact nI_nlt (b := 1) (by omega) (by omega)) (nI_le (b := 1000000) (by omega) (by decide)) (nI_pos (by omega)) (nI_le (b := 9999) (by omega) (by decide))) cw_receives_0 (by decide) (fun _ => rfl) rfl hl.1 rfl (Nat.le_of_ble_eq_true rfl) dL_act_208 ⟨Nat.le_of_ble_eq_true rfl, Nat.le_of_ble_eq_true rfl⟩ (fun r208 u H locs hw hP hD hS => ?_)
      have hw : r208 = nI q := hw
      subst hw
      have hP : va_P D vwCl (wCA a cI cZ ((rcvS B R E q ((-1)) (nI ((1) + ((y / 2) % (20)))) (nI ((y / 7) % (4))) n td).1) ((rcvS B R E q ((-1)) (nI ((1) + ((y / 2) % (20)))) (nI ((y / 7) % (4))) n td).2.1) ((rcvS B R E q ((-1)) (nI ((1) + ((y / 2) % (20)))) (nI ((y / 7) % (4))) n td).2.2) (td)) H := hP
      have hD : va_D A (wCA a cI cZ ((rcvS B R E q ((-1)) (nI ((1) + ((y / 2) % (20)))) (nI ((y / 7) % (4))) n td).1) ((rcvS B R E q ((-1)) (nI ((1) + ((y / 2) % (20)))) (nI ((y / 7) % (4))) n td).2.1) ((rcvS B R E q ((-1)) (nI ((1) + ((y / 2) % (20)))) (nI ((y / 7) % (4))) n td).2.2) (td)) := hD
      refine W.widen (k := 1) (n := 6) (Nat.le_of_ble_eq_true rfl) (Nat.le_of_ble_eq_true rfl) ?_
      exact k211 (nI q) (((rcvS B R E q ((-1)) (nI ((1) + ((y / 2) % (20)))) (nI ((y / 7) % (4))) n td).1)) (((rcvS B R E q ((-1)) (nI ((1) + ((y / 2) % (20)))) (nI ((y / 7) % (4))) n td).2.1)) (((rcvS B R E q ((-1)) (nI ((1) + ((y / 2) % (20)))) (nI ((y / 7) % (4))) n td).2.2)) (td) (by simp only [actB, actR, actA, actP, actK, actC, actS, actV, aAm, aRt, c189, hlt, if_true, if_false, ite_true, ite_false, reduceIte, not_true, not_false_eq_true, and_self, and_true, true_and, and_false, false_and]) _ _ _ hP hD hS (lv_sub hl [0, 1] rfl)
    · -- hlt False
      refine zkW (v := (-2000000003)) kCA F (zwCA hP hD hS hA) hK hX hZ (c_L_receives_k l hfl D cI cZ a H.size (B) (R) (E) (td) (q) ((-1)) (nI ((1) + ((y / 2) % (20)))) (nI ((y / 7) % (4))) (3) ((-2000000003)) (by first | assumption | omega) (by first | assumption | omega) (rk3g (by omega) (Or.inl rfl) (by show ¬ nI _ < 1; exact nI_nlt (b := 1) (by omega) (by omega)) (nI_le (b := 1000000) (by omega) (by decide)) (nI_pos (by omega)) (nI_le (b := 9999) (by omega) (by decide))) (by decide) rfl) cw_receives_k (by decide) rfl rfl hl.1 rfl (Nat.le_of_ble_eq_true rfl) dL_act_208 ⟨Nat.le_of_ble_eq_true rfl, Nat.le_of_ble_eq_true rfl⟩ (fun H locs hP hD hS => ?_)
      refine W.widen (k := 1) (n := 6) (Nat.le_of_ble_eq_true rfl) (Nat.le_of_ble_eq_true rfl) ?_
      exact k211 ((-2000000003)) (B) (R) (E) (td) (by simp only [actB, actR, actA, actP, actK, actC, actS, actV, aAm, aRt, c189, hlt, if_true, if_false, ite_true, ite_false, reduceIte, not_true, not_false_eq_true, and_self, and_true, true_and, and_false, false_and]) _ _ _ hP hD hS (lv_sub hl [0, 1] rfl)
set_option maxHeartbeats 8000000 in
set_option maxRecDepth 100000 in
theorem ac_a {p : Program} {l : Launch} {e : Env} {s : State} {m : MethodId} {args : Array Value} {below : List Frame} {meth : Method} {c : Code} {Q : State → Prop} {D : va_G} {A : Nat → Prop} {cI cZ : ClassId} {a : Nat → Nat} {B R E : Nat → Nat → Int32} {td : Int32} {H : Heap} {locs : List Loc} {ls : Array Slot} (n : Nat) (q : Nat) (y : Nat) (F : CallFix p m c cL_act 5 s args wsL_act RL) (hK : va_K D vwCl (tyl cI cZ) s) (hA : ∀ q : Nat, s.heap.size ≤ q → A q) (hX : ExB s) (hZ : ExZ A s s.heap) (hfl : l.stackTraces = false) (hB : B 11 0 = nI n) (hn : n ≤ 40) (hR : R 8 0 = nI q) (hq : q ≤ 30) (I7 : ∀ j, R 7 j = 0 ∨ R 7 j = 1) (hy : y < 134217728) (hP : va_P D vwCl (wCA a cI cZ B R E (td)) H) (hD : va_D A (wCA a cI cZ B R E (td))) (hS : va_S A s.heap H locs) (hl : lv_has ls 5 [(0, .ref (a 0)), (2, .int (nI (y)))])
    (k239 : ∀ (r : Int32) (B' : Nat → Nat → Int32) (R' : Nat → Nat → Int32) (E' : Nat → Nat → Int32) (td' : Int32) (hres : actA B R E td n q y = (r, B', R', E', td')) (H : Heap) (locs : List Loc) (ls : Array Slot), va_P D vwCl (wCA a cI cZ B' R' E' (td')) H → va_D A (wCA a cI cZ B' R' E' (td')) → va_S A s.heap H locs → lv_has ls 5 [(0, .ref (a 0)), (2, .int (nI (y)))] → W p l e ({ frames := 9, cells := 1, slots := 6, locals := 184 } : Room) s m args below meth c H locs 1 6 Q (F0 m 239 ls [.int (r)])) :
    W p l e ({ frames := 9, cells := 1, slots := 6, locals := 184 } : Room) s m args below meth c H locs 0 0 Q (F0 m 212 ls []) := by
  obtain ⟨hx, hb, hml, hown, hts⟩ := id F
  have cv_receipts : CallW ({ frames := 9, cells := 1, slots := 6, locals := 184 } : Room) s args RL RX3 86 yX3_receipts cX3_receipts 1 (some .int) wsX3_receipts ({ frames := 0, cells := 0, slots := 0, locals := 0 } : Room) 0 0 0 := cwV 0 hts gL_act_X3_receipts rfl rfl rfl (by decide +kernel) ⟨Nat.le_of_ble_eq_true rfl, Nat.le_of_ble_eq_true rfl⟩
  have cw_assigns_0 : vx_CSW ({ frames := 9, cells := 1, slots := 6, locals := 184 } : Room) s args RL 103 yL_assigns cL_assigns 4 (some .int) [(0, 6, 7, 13), (0, 6, 11, 19)] wsL_assigns ({ frames := 7, cells := 0, slots := 0, locals := 158 } : Room) 0 0 3 := vx_cwSW 3 hts gL_act_L_assigns rfl rfl rfl (by decide +kernel) ⟨Nat.le_of_ble_eq_true rfl, Nat.le_of_ble_eq_true rfl⟩
  have cw_assigns_k : vx_CSW ({ frames := 9, cells := 1, slots := 6, locals := 184 } : Room) s args RL 103 yL_assigns cL_assigns 4 (some .int) [(0, 6, 7, 13), (0, 6, 11, 19)] wsL_assigns ({ frames := 8, cells := 1, slots := 6, locals := 158 } : Room) 1 6 3 := vx_cwSW 3 hts gL_act_L_assigns rfl rfl rfl (by decide +kernel) ⟨Nat.le_of_ble_eq_true rfl, Nat.le_of_ble_eq_true rfl⟩
  refine lv_aload_n hx hb dL_act_212 rfl (lv_at hl 0 rfl) ?_
  refine lv_aload_n hx hb dL_act_213 rfl (lv_at hl 0 rfl) ?_
  refine zkV (v := R 8 0) kCA (ci := 3) (q0 := 0) F (zwCA hP hD hS hA) hK (c_X3_receipts l D cI cZ a H.size (B) (R) (E) (td) ) cv_receipts rfl rfl (by decide) rfl rfl hl.1 rfl (Nat.le_of_ble_eq_true rfl) dL_act_214 ⟨Nat.le_of_ble_eq_true rfl, Nat.le_of_ble_eq_true rfl⟩ (fun H locs hP hD hS => ?_)
  rw [hR]
  refine lv_if_ne (tgt := 224) hx hb dL_act_217 (by decide) (fun c217 => ?_) (fun c217 => ?_)
  · -- 217 taken
    rw [show (0 : Int32) = nI 0 from rfl] at c217
    rw [nI_eq (by omega) (by omega)] at c217
    have hq0 : 0 < q := Nat.pos_of_ne_zero c217
    have hjq : y % q < q := Nat.mod_lt _ hq0
    refine lv_iload_n hx hb dL_act_224 rfl (lv_at hl 1 rfl) ?_
    refine lv_aload_n hx hb dL_act_225 rfl (lv_at hl 0 rfl) ?_
    refine zkV (v := R 8 0) kCA (ci := 3) (q0 := 0) F (zwCA hP hD hS hA) hK (c_X3_receipts l D cI cZ a H.size (B) (R) (E) (td) ) cv_receipts rfl rfl (by decide) rfl rfl hl.1 rfl (Nat.le_of_ble_eq_true rfl) dL_act_226 ⟨Nat.le_of_ble_eq_true rfl, Nat.le_of_ble_eq_true rfl⟩ (fun H locs hP hD hS => ?_)
    rw [hR]
    refine lv_rem (x := y) (d := q) hx hb rfl rfl dL_act_229 (by omega) (by omega) (by omega) ?_
    refine lv_iload_n hx hb dL_act_230 rfl (lv_at hl 1 rfl) ?_
    refine lv_bipush (v := nI (30)) hx hb dL_act_231 (by decide) ?_
    refine lv_quo (x := y) (d := 30) hx hb rfl rfl dL_act_233 (by omega) (by omega) (by omega) ?_
    refine lv_iconst (v := nI (2)) hx hb dL_act_234 (by decide) ?_
    refine lv_rem (x := y / 30) (d := 2) hx hb rfl rfl dL_act_235 (by omega) (by omega) (by omega) ?_
    by_cases hj : R 5 (y % q) = 0 ∧ R 0 (y % q) = -1
    · -- hj True
      refine zcW (wf := fun (_ : Unit) => (wCA a cI cZ ((othS B (pt R 0 (y % q) (nI ((y / 30) % (2)))) E (y % q) n td).1) ((othS B (pt R 0 (y % q) (nI ((y / 30) % (2)))) E (y % q) n td).2.1) ((othS B (pt R 0 (y % q) (nI ((y / 30) % (2)))) E (y % q) n td).2.2) (td))) kCA F (zwCA hP hD hS hA) hK hX hZ (c_L_assigns_0 l D cI cZ a H.size (B) (R) (E) (td) (n) (q) (y % q) (nI ((y / 30) % (2))) (by first | assumption | omega) (by first | assumption | omega) (by first | assumption | omega) (by first | assumption | omega) hjq (nI_pos (by omega)) (nI_lt (b := 8) (by omega) (by decide)) hj.1 hj.2) cw_assigns_0 (by decide) (fun _ => rfl) rfl hl.1 rfl (Nat.le_of_ble_eq_true rfl) dL_act_236 ⟨Nat.le_of_ble_eq_true rfl, Nat.le_of_ble_eq_true rfl⟩ (fun r236 u H locs hw hP hD hS => ?_)
      have hw : r236 = (othS B (pt R 0 (y % q) (nI ((y / 30) % (2)))) E (y % q) n td).2.1 3 (y % q) := hw
      subst hw
      have hP : va_P D vwCl (wCA a cI cZ ((othS B (pt R 0 (y % q) (nI ((y / 30) % (2)))) E (y % q) n td).1) ((othS B (pt R 0 (y % q) (nI ((y / 30) % (2)))) E (y % q) n td).2.1) ((othS B (pt R 0 (y % q) (nI ((y / 30) % (2)))) E (y % q) n td).2.2) (td)) H := hP
      have hD : va_D A (wCA a cI cZ ((othS B (pt R 0 (y % q) (nI ((y / 30) % (2)))) E (y % q) n td).1) ((othS B (pt R 0 (y % q) (nI ((y / 30) % (2)))) E (y % q) n td).2.1) ((othS B (pt R 0 (y % q) (nI ((y / 30) % (2)))) E (y % q) n td).2.2) (td)) := hD
      refine W.widen (k := 1) (n := 6) (Nat.le_of_ble_eq_true rfl) (Nat.le_of_ble_eq_true rfl) ?_
      exact k239 ((othS B (pt R 0 (y % q) (nI ((y / 30) % (2)))) E (y % q) n td).2.1 3 (y % q)) (((othS B (pt R 0 (y % q) (nI ((y / 30) % (2)))) E (y % q) n td).1)) (((othS B (pt R 0 (y % q) (nI ((y / 30) % (2)))) E (y % q) n td).2.1)) (((othS B (pt R 0 (y % q) (nI ((y / 30) % (2)))) E (y % q) n td).2.2)) (td) (by simp only [actB, actR, actA, actP, actK, actC, actS, actV, aAm, aRt, c217, hj, if_true, if_false, ite_true, ite_false, reduceIte, not_true, not_false_eq_true, and_self, and_true, true_and, and_false, false_and]) _ _ _ hP hD hS (lv_sub hl [0, 1] rfl)
    · -- hj False
      refine zkW (v := (-2000000003)) kCA F (zwCA hP hD hS hA) hK hX hZ (c_L_assigns_k l hfl D cI cZ a H.size (B) (R) (E) (td) (q) (nI (y % q)) (nI ((y / 30) % (2))) (2) ((-2000000003)) (by first | assumption | omega) (by first | assumption | omega) (ak2 hR hq hjq (nI_pos (by omega)) (nI_lt (b := 8) (by omega) (by decide)) (Classical.not_and_iff_not_or_not.mp hj)) (by decide) rfl) cw_assigns_k (by decide) rfl rfl hl.1 rfl (Nat.le_of_ble_eq_true rfl) dL_act_236 ⟨Nat.le_of_ble_eq_true rfl, Nat.le_of_ble_eq_true rfl⟩ (fun H locs hP hD hS => ?_)
      refine W.widen (k := 1) (n := 6) (Nat.le_of_ble_eq_true rfl) (Nat.le_of_ble_eq_true rfl) ?_
      exact k239 ((-2000000003)) (B) (R) (E) (td) (by simp only [actB, actR, actA, actP, actK, actC, actS, actV, aAm, aRt, c217, hj, if_true, if_false, ite_true, ite_false, reduceIte, not_true, not_false_eq_true, and_self, and_true, true_and, and_false, false_and]) _ _ _ hP hD hS (lv_sub hl [0, 1] rfl)
  · -- 217 on
    rw [show (0 : Int32) = nI 0 from rfl] at c217
    rw [nI_eq (by omega) (by omega)] at c217
    refine lv_iconst (v := nI (0)) hx hb dL_act_220 (by decide) ?_
    refine lv_goto (tgt := 230) hx hb dL_act_221 (by decide) ?_
    refine lv_iload_n hx hb dL_act_230 rfl (lv_at hl 1 rfl) ?_
    refine lv_bipush (v := nI (30)) hx hb dL_act_231 (by decide) ?_
    refine lv_quo (x := y) (d := 30) hx hb rfl rfl dL_act_233 (by omega) (by omega) (by omega) ?_
    refine lv_iconst (v := nI (2)) hx hb dL_act_234 (by decide) ?_
    refine lv_rem (x := y / 30) (d := 2) hx hb rfl rfl dL_act_235 (by omega) (by omega) (by omega) ?_
    refine zkW (v := (-2000000001)) kCA F (zwCA hP hD hS hA) hK hX hZ (c_L_assigns_k l hfl D cI cZ a H.size (B) (R) (E) (td) (q) (nI (0)) (nI ((y / 30) % (2))) (1) ((-2000000001)) (by first | assumption | omega) (by first | assumption | omega) (ak1 (Or.inr (by rw [hR]; exact nI_nlt (by omega) (by omega)))) (by decide) rfl) cw_assigns_k (by decide) rfl rfl hl.1 rfl (Nat.le_of_ble_eq_true rfl) dL_act_236 ⟨Nat.le_of_ble_eq_true rfl, Nat.le_of_ble_eq_true rfl⟩ (fun H locs hP hD hS => ?_)
    refine W.widen (k := 1) (n := 6) (Nat.le_of_ble_eq_true rfl) (Nat.le_of_ble_eq_true rfl) ?_
    exact k239 ((-2000000001)) (B) (R) (E) (td) (by simp only [actB, actR, actA, actP, actK, actC, actS, actV, aAm, aRt, c217, if_true, if_false, ite_true, ite_false, reduceIte, not_true, not_false_eq_true, and_self, and_true, true_and, and_false, false_and]) _ _ _ hP hD hS (lv_sub hl [0, 1] rfl)
set_option maxHeartbeats 8000000 in
set_option maxRecDepth 100000 in
theorem ac_p {p : Program} {l : Launch} {e : Env} {s : State} {m : MethodId} {args : Array Value} {below : List Frame} {meth : Method} {c : Code} {Q : State → Prop} {D : va_G} {A : Nat → Prop} {cI cZ : ClassId} {a : Nat → Nat} {B R E : Nat → Nat → Int32} {td : Int32} {H : Heap} {locs : List Loc} {ls : Array Slot} (n : Nat) (q : Nat) (y : Nat) (F : CallFix p m c cL_act 5 s args wsL_act RL) (hK : va_K D vwCl (tyl cI cZ) s) (hA : ∀ q : Nat, s.heap.size ≤ q → A q) (hX : ExB s) (hZ : ExZ A s s.heap) (hfl : l.stackTraces = false) (hB : B 11 0 = nI n) (hn : n ≤ 40) (hR : R 8 0 = nI q) (hq : q ≤ 30) (I7 : ∀ j, R 7 j = 0 ∨ R 7 j = 1) (hy : y < 134217728) (hP : va_P D vwCl (wCA a cI cZ B R E (td)) H) (hD : va_D A (wCA a cI cZ B R E (td))) (hS : va_S A s.heap H locs) (hl : lv_has ls 5 [(0, .ref (a 0)), (2, .int (nI (y)))])
    (k261 : ∀ (r : Int32) (B' : Nat → Nat → Int32) (R' : Nat → Nat → Int32) (E' : Nat → Nat → Int32) (td' : Int32) (hres : actP B R E td n q y = (r, B', R', E', td')) (H : Heap) (locs : List Loc) (ls : Array Slot), va_P D vwCl (wCA a cI cZ B' R' E' (td')) H → va_D A (wCA a cI cZ B' R' E' (td')) → va_S A s.heap H locs → lv_has ls 5 [(0, .ref (a 0)), (2, .int (nI (y)))] → W p l e ({ frames := 9, cells := 1, slots := 6, locals := 184 } : Room) s m args below meth c H locs 1 6 Q (F0 m 261 ls [.int (r)])) :
    W p l e ({ frames := 9, cells := 1, slots := 6, locals := 184 } : Room) s m args below meth c H locs 0 0 Q (F0 m 240 ls []) := by
  obtain ⟨hx, hb, hml, hown, hts⟩ := id F
  have cv_receipts : CallW ({ frames := 9, cells := 1, slots := 6, locals := 184 } : Room) s args RL RX3 86 yX3_receipts cX3_receipts 1 (some .int) wsX3_receipts ({ frames := 0, cells := 0, slots := 0, locals := 0 } : Room) 0 0 0 := cwV 0 hts gL_act_X3_receipts rfl rfl rfl (by decide +kernel) ⟨Nat.le_of_ble_eq_true rfl, Nat.le_of_ble_eq_true rfl⟩
  have cw_applies_0 : vx_CSW ({ frames := 9, cells := 1, slots := 6, locals := 184 } : Room) s args RL 107 yL_applies cL_applies 3 (some .int) [(0, 5, 6, 13), (0, 5, 10, 19)] wsL_applies ({ frames := 7, cells := 0, slots := 0, locals := 157 } : Room) 0 0 2 := vx_cwSW 2 hts gL_act_L_applies rfl rfl rfl (by decide +kernel) ⟨Nat.le_of_ble_eq_true rfl, Nat.le_of_ble_eq_true rfl⟩
  have cw_applies_k : vx_CSW ({ frames := 9, cells := 1, slots := 6, locals := 184 } : Room) s args RL 107 yL_applies cL_applies 3 (some .int) [(0, 5, 6, 13), (0, 5, 10, 19)] wsL_applies ({ frames := 8, cells := 1, slots := 6, locals := 157 } : Room) 1 6 2 := vx_cwSW 2 hts gL_act_L_applies rfl rfl rfl (by decide +kernel) ⟨Nat.le_of_ble_eq_true rfl, Nat.le_of_ble_eq_true rfl⟩
  refine lv_aload_n hx hb dL_act_240 rfl (lv_at hl 0 rfl) ?_
  refine lv_aload_n hx hb dL_act_241 rfl (lv_at hl 0 rfl) ?_
  refine zkV (v := R 8 0) kCA (ci := 3) (q0 := 0) F (zwCA hP hD hS hA) hK (c_X3_receipts l D cI cZ a H.size (B) (R) (E) (td) ) cv_receipts rfl rfl (by decide) rfl rfl hl.1 rfl (Nat.le_of_ble_eq_true rfl) dL_act_242 ⟨Nat.le_of_ble_eq_true rfl, Nat.le_of_ble_eq_true rfl⟩ (fun H locs hP hD hS => ?_)
  rw [hR]
  refine lv_if_ne (tgt := 252) hx hb dL_act_245 (by decide) (fun c245 => ?_) (fun c245 => ?_)
  · -- 245 taken
    rw [show (0 : Int32) = nI 0 from rfl] at c245
    rw [nI_eq (by omega) (by omega)] at c245
    have hq0 : 0 < q := Nat.pos_of_ne_zero c245
    have hjq : y % q < q := Nat.mod_lt _ hq0
    refine lv_iload_n hx hb dL_act_252 rfl (lv_at hl 1 rfl) ?_
    refine lv_aload_n hx hb dL_act_253 rfl (lv_at hl 0 rfl) ?_
    refine zkV (v := R 8 0) kCA (ci := 3) (q0 := 0) F (zwCA hP hD hS hA) hK (c_X3_receipts l D cI cZ a H.size (B) (R) (E) (td) ) cv_receipts rfl rfl (by decide) rfl rfl hl.1 rfl (Nat.le_of_ble_eq_true rfl) dL_act_254 ⟨Nat.le_of_ble_eq_true rfl, Nat.le_of_ble_eq_true rfl⟩ (fun H locs hP hD hS => ?_)
    rw [hR]
    refine lv_rem (x := y) (d := q) hx hb rfl rfl dL_act_257 (by omega) (by omega) (by omega) ?_
    by_cases hj : R 5 (y % q) = 0 ∧ ¬ R 0 (y % q) = -1
    · -- hj True
      refine zcW (wf := fun (_ : Unit) => (wCA a cI cZ ((othS B R E (y % q) n td).1) ((othS B R E (y % q) n td).2.1) ((othS B R E (y % q) n td).2.2) (td))) kCA F (zwCA hP hD hS hA) hK hX hZ (c_L_applies_0 l D cI cZ a H.size (B) (R) (E) (td) (n) (q) (y % q) (by first | assumption | omega) (by first | assumption | omega) (by first | assumption | omega) (by first | assumption | omega) hjq hj.1 hj.2) cw_applies_0 (by decide) (fun _ => rfl) rfl hl.1 rfl (Nat.le_of_ble_eq_true rfl) dL_act_258 ⟨Nat.le_of_ble_eq_true rfl, Nat.le_of_ble_eq_true rfl⟩ (fun r258 u H locs hw hP hD hS => ?_)
      have hw : r258 = (othS B R E (y % q) n td).2.1 3 (y % q) := hw
      subst hw
      have hP : va_P D vwCl (wCA a cI cZ ((othS B R E (y % q) n td).1) ((othS B R E (y % q) n td).2.1) ((othS B R E (y % q) n td).2.2) (td)) H := hP
      have hD : va_D A (wCA a cI cZ ((othS B R E (y % q) n td).1) ((othS B R E (y % q) n td).2.1) ((othS B R E (y % q) n td).2.2) (td)) := hD
      refine W.widen (k := 1) (n := 6) (Nat.le_of_ble_eq_true rfl) (Nat.le_of_ble_eq_true rfl) ?_
      exact k261 ((othS B R E (y % q) n td).2.1 3 (y % q)) (((othS B R E (y % q) n td).1)) (((othS B R E (y % q) n td).2.1)) (((othS B R E (y % q) n td).2.2)) (td) (by simp only [actB, actR, actA, actP, actK, actC, actS, actV, aAm, aRt, c245, hj, if_true, if_false, ite_true, ite_false, reduceIte, not_true, not_false_eq_true, and_self, and_true, true_and, and_false, false_and]) _ _ _ hP hD hS (lv_sub hl [0, 1] rfl)
    · -- hj False
      refine zkW (v := (-2000000003)) kCA F (zwCA hP hD hS hA) hK hX hZ (c_L_applies_k l hfl D cI cZ a H.size (B) (R) (E) (td) (q) (nI (y % q)) (2) ((-2000000003)) (by first | assumption | omega) (by first | assumption | omega) (pk2 hR hq hjq ((Classical.not_and_iff_not_or_not.mp hj).imp id Classical.not_not.mp)) (by decide) rfl) cw_applies_k (by decide) rfl rfl hl.1 rfl (Nat.le_of_ble_eq_true rfl) dL_act_258 ⟨Nat.le_of_ble_eq_true rfl, Nat.le_of_ble_eq_true rfl⟩ (fun H locs hP hD hS => ?_)
      refine W.widen (k := 1) (n := 6) (Nat.le_of_ble_eq_true rfl) (Nat.le_of_ble_eq_true rfl) ?_
      exact k261 ((-2000000003)) (B) (R) (E) (td) (by simp only [actB, actR, actA, actP, actK, actC, actS, actV, aAm, aRt, c245, hj, if_true, if_false, ite_true, ite_false, reduceIte, not_true, not_false_eq_true, and_self, and_true, true_and, and_false, false_and]) _ _ _ hP hD hS (lv_sub hl [0, 1] rfl)
  · -- 245 on
    rw [show (0 : Int32) = nI 0 from rfl] at c245
    rw [nI_eq (by omega) (by omega)] at c245
    refine lv_iconst (v := nI (0)) hx hb dL_act_248 (by decide) ?_
    refine lv_goto (tgt := 258) hx hb dL_act_249 (by decide) ?_
    refine zkW (v := (-2000000001)) kCA F (zwCA hP hD hS hA) hK hX hZ (c_L_applies_k l hfl D cI cZ a H.size (B) (R) (E) (td) (q) (nI (0)) (1) ((-2000000001)) (by first | assumption | omega) (by first | assumption | omega) (pk1 (Or.inr (by rw [hR]; exact nI_nlt (by omega) (by omega)))) (by decide) rfl) cw_applies_k (by decide) rfl rfl hl.1 rfl (Nat.le_of_ble_eq_true rfl) dL_act_258 ⟨Nat.le_of_ble_eq_true rfl, Nat.le_of_ble_eq_true rfl⟩ (fun H locs hP hD hS => ?_)
    refine W.widen (k := 1) (n := 6) (Nat.le_of_ble_eq_true rfl) (Nat.le_of_ble_eq_true rfl) ?_
    exact k261 ((-2000000001)) (B) (R) (E) (td) (by simp only [actB, actR, actA, actP, actK, actC, actS, actV, aAm, aRt, c245, if_true, if_false, ite_true, ite_false, reduceIte, not_true, not_false_eq_true, and_self, and_true, true_and, and_false, false_and]) _ _ _ hP hD hS (lv_sub hl [0, 1] rfl)
set_option maxHeartbeats 8000000 in
set_option maxRecDepth 100000 in
theorem ac_k {p : Program} {l : Launch} {e : Env} {s : State} {m : MethodId} {args : Array Value} {below : List Frame} {meth : Method} {c : Code} {Q : State → Prop} {D : va_G} {A : Nat → Prop} {cI cZ : ClassId} {a : Nat → Nat} {B R E : Nat → Nat → Int32} {td : Int32} {H : Heap} {locs : List Loc} {ls : Array Slot} (n : Nat) (q : Nat) (y : Nat) (F : CallFix p m c cL_act 5 s args wsL_act RL) (hK : va_K D vwCl (tyl cI cZ) s) (hA : ∀ q : Nat, s.heap.size ≤ q → A q) (hX : ExB s) (hZ : ExZ A s s.heap) (hfl : l.stackTraces = false) (hB : B 11 0 = nI n) (hn : n ≤ 40) (hR : R 8 0 = nI q) (hq : q ≤ 30) (I7 : ∀ j, R 7 j = 0 ∨ R 7 j = 1) (hy : y < 134217728) (hP : va_P D vwCl (wCA a cI cZ B R E (td)) H) (hD : va_D A (wCA a cI cZ B R E (td))) (hS : va_S A s.heap H locs) (hl : lv_has ls 5 [(0, .ref (a 0)), (2, .int (nI (y)))])
    (k283 : ∀ (r : Int32) (B' : Nat → Nat → Int32) (R' : Nat → Nat → Int32) (E' : Nat → Nat → Int32) (td' : Int32) (hres : actK B R E td q y = (r, B', R', E', td')) (H : Heap) (locs : List Loc) (ls : Array Slot), va_P D vwCl (wCA a cI cZ B' R' E' (td')) H → va_D A (wCA a cI cZ B' R' E' (td')) → va_S A s.heap H locs → lv_has ls 5 [(0, .ref (a 0)), (2, .int (nI (y)))] → W p l e ({ frames := 9, cells := 1, slots := 6, locals := 184 } : Room) s m args below meth c H locs 1 6 Q (F0 m 283 ls [.int (r)])) :
    W p l e ({ frames := 9, cells := 1, slots := 6, locals := 184 } : Room) s m args below meth c H locs 0 0 Q (F0 m 262 ls []) := by
  obtain ⟨hx, hb, hml, hown, hts⟩ := id F
  have cv_receipts : CallW ({ frames := 9, cells := 1, slots := 6, locals := 184 } : Room) s args RL RX3 86 yX3_receipts cX3_receipts 1 (some .int) wsX3_receipts ({ frames := 0, cells := 0, slots := 0, locals := 0 } : Room) 0 0 0 := cwV 0 hts gL_act_X3_receipts rfl rfl rfl (by decide +kernel) ⟨Nat.le_of_ble_eq_true rfl, Nat.le_of_ble_eq_true rfl⟩
  have cw_paysBack_0 : vx_CSW ({ frames := 9, cells := 1, slots := 6, locals := 184 } : Room) s args RL 111 yL_paysBack cL_paysBack 3 (some .int) [(0, 5, 6, 13), (0, 5, 10, 19)] wsL_paysBack ({ frames := 2, cells := 0, slots := 0, locals := 43 } : Room) 0 0 2 := vx_cwSW 2 hts gL_act_L_paysBack rfl rfl rfl (by decide +kernel) ⟨Nat.le_of_ble_eq_true rfl, Nat.le_of_ble_eq_true rfl⟩
  have cw_paysBack_k : vx_CSW ({ frames := 9, cells := 1, slots := 6, locals := 184 } : Room) s args RL 111 yL_paysBack cL_paysBack 3 (some .int) [(0, 5, 6, 13), (0, 5, 10, 19)] wsL_paysBack ({ frames := 8, cells := 1, slots := 6, locals := 132 } : Room) 1 6 2 := vx_cwSW 2 hts gL_act_L_paysBack rfl rfl rfl (by decide +kernel) ⟨Nat.le_of_ble_eq_true rfl, Nat.le_of_ble_eq_true rfl⟩
  refine lv_aload_n hx hb dL_act_262 rfl (lv_at hl 0 rfl) ?_
  refine lv_aload_n hx hb dL_act_263 rfl (lv_at hl 0 rfl) ?_
  refine zkV (v := R 8 0) kCA (ci := 3) (q0 := 0) F (zwCA hP hD hS hA) hK (c_X3_receipts l D cI cZ a H.size (B) (R) (E) (td) ) cv_receipts rfl rfl (by decide) rfl rfl hl.1 rfl (Nat.le_of_ble_eq_true rfl) dL_act_264 ⟨Nat.le_of_ble_eq_true rfl, Nat.le_of_ble_eq_true rfl⟩ (fun H locs hP hD hS => ?_)
  rw [hR]
  refine lv_if_ne (tgt := 274) hx hb dL_act_267 (by decide) (fun c267 => ?_) (fun c267 => ?_)
  · -- 267 taken
    rw [show (0 : Int32) = nI 0 from rfl] at c267
    rw [nI_eq (by omega) (by omega)] at c267
    have hq0 : 0 < q := Nat.pos_of_ne_zero c267
    have hjq : y % q < q := Nat.mod_lt _ hq0
    refine lv_iload_n hx hb dL_act_274 rfl (lv_at hl 1 rfl) ?_
    refine lv_aload_n hx hb dL_act_275 rfl (lv_at hl 0 rfl) ?_
    refine zkV (v := R 8 0) kCA (ci := 3) (q0 := 0) F (zwCA hP hD hS hA) hK (c_X3_receipts l D cI cZ a H.size (B) (R) (E) (td) ) cv_receipts rfl rfl (by decide) rfl rfl hl.1 rfl (Nat.le_of_ble_eq_true rfl) dL_act_276 ⟨Nat.le_of_ble_eq_true rfl, Nat.le_of_ble_eq_true rfl⟩ (fun H locs hP hD hS => ?_)
    rw [hR]
    refine lv_rem (x := y) (d := q) hx hb rfl rfl dL_act_279 (by omega) (by omega) (by omega) ?_
    by_cases hj : R 5 (y % q) = 0 ∧ ¬ R 3 (y % q) = 0
    · -- hj True
      refine zcW (wf := fun (_ : Unit) => (wCA a cI cZ B (pbR R (y % q)) E (td))) kCA F (zwCA hP hD hS hA) hK hX hZ (c_L_paysBack_0 l D cI cZ a H.size (B) (R) (E) (td) (q) (y % q) (by first | assumption | omega) (by first | assumption | omega) hjq hj.1 hj.2) cw_paysBack_0 (by decide) (fun _ => rfl) rfl hl.1 rfl (Nat.le_of_ble_eq_true rfl) dL_act_280 ⟨Nat.le_of_ble_eq_true rfl, Nat.le_of_ble_eq_true rfl⟩ (fun r280 u H locs hw hP hD hS => ?_)
      have hw : r280 = R 3 (y % q) := hw
      subst hw
      have hP : va_P D vwCl (wCA a cI cZ B (pbR R (y % q)) E (td)) H := hP
      have hD : va_D A (wCA a cI cZ B (pbR R (y % q)) E (td)) := hD
      refine W.widen (k := 1) (n := 6) (Nat.le_of_ble_eq_true rfl) (Nat.le_of_ble_eq_true rfl) ?_
      exact k283 (R 3 (y % q)) (B) ((pbR R (y % q))) (E) (td) (by simp only [actB, actR, actA, actP, actK, actC, actS, actV, aAm, aRt, c267, hj, if_true, if_false, ite_true, ite_false, reduceIte, not_true, not_false_eq_true, and_self, and_true, true_and, and_false, false_and]) _ _ _ hP hD hS (lv_sub hl [0, 1] rfl)
    · -- hj False
      refine zkW (v := (-2000000003)) kCA F (zwCA hP hD hS hA) hK hX hZ (c_L_paysBack_k l hfl D cI cZ a H.size (B) (R) (E) (td) (q) (nI (y % q)) (2) ((-2000000003)) (by first | assumption | omega) (by first | assumption | omega) (yk2 hR hq hjq ((Classical.not_and_iff_not_or_not.mp hj).imp id Classical.not_not.mp)) (by decide) rfl) cw_paysBack_k (by decide) rfl rfl hl.1 rfl (Nat.le_of_ble_eq_true rfl) dL_act_280 ⟨Nat.le_of_ble_eq_true rfl, Nat.le_of_ble_eq_true rfl⟩ (fun H locs hP hD hS => ?_)
      refine W.widen (k := 1) (n := 6) (Nat.le_of_ble_eq_true rfl) (Nat.le_of_ble_eq_true rfl) ?_
      exact k283 ((-2000000003)) (B) (R) (E) (td) (by simp only [actB, actR, actA, actP, actK, actC, actS, actV, aAm, aRt, c267, hj, if_true, if_false, ite_true, ite_false, reduceIte, not_true, not_false_eq_true, and_self, and_true, true_and, and_false, false_and]) _ _ _ hP hD hS (lv_sub hl [0, 1] rfl)
  · -- 267 on
    rw [show (0 : Int32) = nI 0 from rfl] at c267
    rw [nI_eq (by omega) (by omega)] at c267
    refine lv_iconst (v := nI (0)) hx hb dL_act_270 (by decide) ?_
    refine lv_goto (tgt := 280) hx hb dL_act_271 (by decide) ?_
    refine zkW (v := (-2000000001)) kCA F (zwCA hP hD hS hA) hK hX hZ (c_L_paysBack_k l hfl D cI cZ a H.size (B) (R) (E) (td) (q) (nI (0)) (1) ((-2000000001)) (by first | assumption | omega) (by first | assumption | omega) (yk1 (Or.inr (by rw [hR]; exact nI_nlt (by omega) (by omega)))) (by decide) rfl) cw_paysBack_k (by decide) rfl rfl hl.1 rfl (Nat.le_of_ble_eq_true rfl) dL_act_280 ⟨Nat.le_of_ble_eq_true rfl, Nat.le_of_ble_eq_true rfl⟩ (fun H locs hP hD hS => ?_)
    refine W.widen (k := 1) (n := 6) (Nat.le_of_ble_eq_true rfl) (Nat.le_of_ble_eq_true rfl) ?_
    exact k283 ((-2000000001)) (B) (R) (E) (td) (by simp only [actB, actR, actA, actP, actK, actC, actS, actV, aAm, aRt, c267, if_true, if_false, ite_true, ite_false, reduceIte, not_true, not_false_eq_true, and_self, and_true, true_and, and_false, false_and]) _ _ _ hP hD hS (lv_sub hl [0, 1] rfl)
set_option maxHeartbeats 8000000 in
set_option maxRecDepth 100000 in
theorem ac_c {p : Program} {l : Launch} {e : Env} {s : State} {m : MethodId} {args : Array Value} {below : List Frame} {meth : Method} {c : Code} {Q : State → Prop} {D : va_G} {A : Nat → Prop} {cI cZ : ClassId} {a : Nat → Nat} {B R E : Nat → Nat → Int32} {td : Int32} {H : Heap} {locs : List Loc} {ls : Array Slot} (n : Nat) (q : Nat) (y : Nat) (F : CallFix p m c cL_act 5 s args wsL_act RL) (hK : va_K D vwCl (tyl cI cZ) s) (hA : ∀ q : Nat, s.heap.size ≤ q → A q) (hX : ExB s) (hZ : ExZ A s s.heap) (hfl : l.stackTraces = false) (hB : B 11 0 = nI n) (hn : n ≤ 40) (hR : R 8 0 = nI q) (hq : q ≤ 30) (I7 : ∀ j, R 7 j = 0 ∨ R 7 j = 1) (hy : y < 134217728) (hP : va_P D vwCl (wCA a cI cZ B R E (td)) H) (hD : va_D A (wCA a cI cZ B R E (td))) (hS : va_S A s.heap H locs) (hl : lv_has ls 5 [(0, .ref (a 0)), (2, .int (nI (y)))])
    (k305 : ∀ (r : Int32) (B' : Nat → Nat → Int32) (R' : Nat → Nat → Int32) (E' : Nat → Nat → Int32) (td' : Int32) (hres : actC B R E td n q y = (r, B', R', E', td')) (H : Heap) (locs : List Loc) (ls : Array Slot), va_P D vwCl (wCA a cI cZ B' R' E' (td')) H → va_D A (wCA a cI cZ B' R' E' (td')) → va_S A s.heap H locs → lv_has ls 5 [(0, .ref (a 0)), (2, .int (nI (y)))] → W p l e ({ frames := 9, cells := 1, slots := 6, locals := 184 } : Room) s m args below meth c H locs 1 6 Q (F0 m 305 ls [.int (r)])) :
    W p l e ({ frames := 9, cells := 1, slots := 6, locals := 184 } : Room) s m args below meth c H locs 0 0 Q (F0 m 284 ls []) := by
  obtain ⟨hx, hb, hml, hown, hts⟩ := id F
  have cv_receipts : CallW ({ frames := 9, cells := 1, slots := 6, locals := 184 } : Room) s args RL RX3 86 yX3_receipts cX3_receipts 1 (some .int) wsX3_receipts ({ frames := 0, cells := 0, slots := 0, locals := 0 } : Room) 0 0 0 := cwV 0 hts gL_act_X3_receipts rfl rfl rfl (by decide +kernel) ⟨Nat.le_of_ble_eq_true rfl, Nat.le_of_ble_eq_true rfl⟩
  have cw_bounces_0 : vx_CSW ({ frames := 9, cells := 1, slots := 6, locals := 184 } : Room) s args RL 114 yL_bounces cL_bounces 3 (some .int) [(0, 5, 6, 13), (0, 5, 10, 19)] wsL_bounces ({ frames := 3, cells := 0, slots := 0, locals := 69 } : Room) 0 0 2 := vx_cwSW 2 hts gL_act_L_bounces rfl rfl rfl (by decide +kernel) ⟨Nat.le_of_ble_eq_true rfl, Nat.le_of_ble_eq_true rfl⟩
  have cw_bounces_k : vx_CSW ({ frames := 9, cells := 1, slots := 6, locals := 184 } : Room) s args RL 114 yL_bounces cL_bounces 3 (some .int) [(0, 5, 6, 13), (0, 5, 10, 19)] wsL_bounces ({ frames := 8, cells := 1, slots := 6, locals := 134 } : Room) 1 6 2 := vx_cwSW 2 hts gL_act_L_bounces rfl rfl rfl (by decide +kernel) ⟨Nat.le_of_ble_eq_true rfl, Nat.le_of_ble_eq_true rfl⟩
  refine lv_aload_n hx hb dL_act_284 rfl (lv_at hl 0 rfl) ?_
  refine lv_aload_n hx hb dL_act_285 rfl (lv_at hl 0 rfl) ?_
  refine zkV (v := R 8 0) kCA (ci := 3) (q0 := 0) F (zwCA hP hD hS hA) hK (c_X3_receipts l D cI cZ a H.size (B) (R) (E) (td) ) cv_receipts rfl rfl (by decide) rfl rfl hl.1 rfl (Nat.le_of_ble_eq_true rfl) dL_act_286 ⟨Nat.le_of_ble_eq_true rfl, Nat.le_of_ble_eq_true rfl⟩ (fun H locs hP hD hS => ?_)
  rw [hR]
  refine lv_if_ne (tgt := 296) hx hb dL_act_289 (by decide) (fun c289 => ?_) (fun c289 => ?_)
  · -- 289 taken
    rw [show (0 : Int32) = nI 0 from rfl] at c289
    rw [nI_eq (by omega) (by omega)] at c289
    have hq0 : 0 < q := Nat.pos_of_ne_zero c289
    have hjq : y % q < q := Nat.mod_lt _ hq0
    refine lv_iload_n hx hb dL_act_296 rfl (lv_at hl 1 rfl) ?_
    refine lv_aload_n hx hb dL_act_297 rfl (lv_at hl 0 rfl) ?_
    refine zkV (v := R 8 0) kCA (ci := 3) (q0 := 0) F (zwCA hP hD hS hA) hK (c_X3_receipts l D cI cZ a H.size (B) (R) (E) (td) ) cv_receipts rfl rfl (by decide) rfl rfl hl.1 rfl (Nat.le_of_ble_eq_true rfl) dL_act_298 ⟨Nat.le_of_ble_eq_true rfl, Nat.le_of_ble_eq_true rfl⟩ (fun H locs hP hD hS => ?_)
    rw [hR]
    refine lv_rem (x := y) (d := q) hx hb rfl rfl dL_act_301 (by omega) (by omega) (by omega) ?_
    by_cases hj : R 5 (y % q) = 0 ∧ R 4 (y % q) ≤ 0
    · -- hj True
      refine zcW (wf := fun (_ : Unit) => (wCA a cI cZ ((((bncL (y % q) n 0 0 B R).2.1, mkB (bncL (y % q) n 0 0 B R).2.2 (y % q))).1) ((((bncL (y % q) n 0 0 B R).2.1, mkB (bncL (y % q) n 0 0 B R).2.2 (y % q))).2) E (td))) kCA F (zwCA hP hD hS hA) hK hX hZ (c_L_bounces_0 l D cI cZ a H.size (B) (R) (E) (td) (n) (q) (y % q) (by first | assumption | omega) (by first | assumption | omega) (by first | assumption | omega) (by first | assumption | omega) hjq hj.1 hj.2 I7) cw_bounces_0 (by decide) (fun _ => rfl) rfl hl.1 rfl (Nat.le_of_ble_eq_true rfl) dL_act_302 ⟨Nat.le_of_ble_eq_true rfl, Nat.le_of_ble_eq_true rfl⟩ (fun r302 u H locs hw hP hD hS => ?_)
      have hw : r302 = nI (bncL (y % q) n 0 0 B R).1 := hw
      subst hw
      have hP : va_P D vwCl (wCA a cI cZ ((((bncL (y % q) n 0 0 B R).2.1, mkB (bncL (y % q) n 0 0 B R).2.2 (y % q))).1) ((((bncL (y % q) n 0 0 B R).2.1, mkB (bncL (y % q) n 0 0 B R).2.2 (y % q))).2) E (td)) H := hP
      have hD : va_D A (wCA a cI cZ ((((bncL (y % q) n 0 0 B R).2.1, mkB (bncL (y % q) n 0 0 B R).2.2 (y % q))).1) ((((bncL (y % q) n 0 0 B R).2.1, mkB (bncL (y % q) n 0 0 B R).2.2 (y % q))).2) E (td)) := hD
      refine W.widen (k := 1) (n := 6) (Nat.le_of_ble_eq_true rfl) (Nat.le_of_ble_eq_true rfl) ?_
      exact k305 (nI (bncL (y % q) n 0 0 B R).1) (((((bncL (y % q) n 0 0 B R).2.1, mkB (bncL (y % q) n 0 0 B R).2.2 (y % q))).1)) (((((bncL (y % q) n 0 0 B R).2.1, mkB (bncL (y % q) n 0 0 B R).2.2 (y % q))).2)) (E) (td) (by simp only [actB, actR, actA, actP, actK, actC, actS, actV, aAm, aRt, c289, hj, if_true, if_false, ite_true, ite_false, reduceIte, not_true, not_false_eq_true, and_self, and_true, true_and, and_false, false_and]) _ _ _ hP hD hS (lv_sub hl [0, 1] rfl)
    · -- hj False
      refine zkW (v := (-2000000003)) kCA F (zwCA hP hD hS hA) hK hX hZ (c_L_bounces_k l hfl D cI cZ a H.size (B) (R) (E) (td) (q) (nI (y % q)) (2) ((-2000000003)) (by first | assumption | omega) (by first | assumption | omega) (ck2 hR hq hjq (Classical.not_and_iff_not_or_not.mp hj)) (by decide) rfl) cw_bounces_k (by decide) rfl rfl hl.1 rfl (Nat.le_of_ble_eq_true rfl) dL_act_302 ⟨Nat.le_of_ble_eq_true rfl, Nat.le_of_ble_eq_true rfl⟩ (fun H locs hP hD hS => ?_)
      refine W.widen (k := 1) (n := 6) (Nat.le_of_ble_eq_true rfl) (Nat.le_of_ble_eq_true rfl) ?_
      exact k305 ((-2000000003)) (B) (R) (E) (td) (by simp only [actB, actR, actA, actP, actK, actC, actS, actV, aAm, aRt, c289, hj, if_true, if_false, ite_true, ite_false, reduceIte, not_true, not_false_eq_true, and_self, and_true, true_and, and_false, false_and]) _ _ _ hP hD hS (lv_sub hl [0, 1] rfl)
  · -- 289 on
    rw [show (0 : Int32) = nI 0 from rfl] at c289
    rw [nI_eq (by omega) (by omega)] at c289
    refine lv_iconst (v := nI (0)) hx hb dL_act_292 (by decide) ?_
    refine lv_goto (tgt := 302) hx hb dL_act_293 (by decide) ?_
    refine zkW (v := (-2000000001)) kCA F (zwCA hP hD hS hA) hK hX hZ (c_L_bounces_k l hfl D cI cZ a H.size (B) (R) (E) (td) (q) (nI (0)) (1) ((-2000000001)) (by first | assumption | omega) (by first | assumption | omega) (ck1 (Or.inr (by rw [hR]; exact nI_nlt (by omega) (by omega)))) (by decide) rfl) cw_bounces_k (by decide) rfl rfl hl.1 rfl (Nat.le_of_ble_eq_true rfl) dL_act_302 ⟨Nat.le_of_ble_eq_true rfl, Nat.le_of_ble_eq_true rfl⟩ (fun H locs hP hD hS => ?_)
    refine W.widen (k := 1) (n := 6) (Nat.le_of_ble_eq_true rfl) (Nat.le_of_ble_eq_true rfl) ?_
    exact k305 ((-2000000001)) (B) (R) (E) (td) (by simp only [actB, actR, actA, actP, actK, actC, actS, actV, aAm, aRt, c289, if_true, if_false, ite_true, ite_false, reduceIte, not_true, not_false_eq_true, and_self, and_true, true_and, and_false, false_and]) _ _ _ hP hD hS (lv_sub hl [0, 1] rfl)
set_option maxHeartbeats 8000000 in
set_option maxRecDepth 100000 in
theorem ac_s0 {p : Program} {l : Launch} {e : Env} {s : State} {m : MethodId} {args : Array Value} {below : List Frame} {meth : Method} {c : Code} {Q : State → Prop} {D : va_G} {A : Nat → Prop} {cI cZ : ClassId} {a : Nat → Nat} {B R E : Nat → Nat → Int32} {td : Int32} {H : Heap} {locs : List Loc} {ls : Array Slot} (n : Nat) (q : Nat) (y : Nat) (F : CallFix p m c cL_act 5 s args wsL_act RL) (hK : va_K D vwCl (tyl cI cZ) s) (hA : ∀ q : Nat, s.heap.size ≤ q → A q) (hX : ExB s) (hZ : ExZ A s s.heap) (hfl : l.stackTraces = false) (hB : B 11 0 = nI n) (hn : n ≤ 40) (hR : R 8 0 = nI q) (hq : q ≤ 30) (I7 : ∀ j, R 7 j = 0 ∨ R 7 j = 1) (hy : y < 134217728) (hn0 : n = 0) (hP : va_P D vwCl (wCA a cI cZ B R E (td)) H) (hD : va_D A (wCA a cI cZ B R E (td))) (hS : va_S A s.heap H locs) (hl : lv_has ls 5 [(0, .ref (a 0)), (2, .int (nI (y)))])
    (k375 : ∀ (r : Int32) (B' : Nat → Nat → Int32) (R' : Nat → Nat → Int32) (E' : Nat → Nat → Int32) (td' : Int32) (hres : actS B R E td n y = (r, B', R', E', td')) (H : Heap) (locs : List Loc) (ls : Array Slot), va_P D vwCl (wCA a cI cZ B' R' E' (td')) H → va_D A (wCA a cI cZ B' R' E' (td')) → va_S A s.heap H locs → lv_has ls 5 [(0, .ref (a 0)), (2, .int (nI (y)))] → W p l e ({ frames := 9, cells := 1, slots := 6, locals := 184 } : Room) s m args below meth c H locs 1 6 Q (F0 m 375 ls [.int (r)])) :
    W p l e ({ frames := 9, cells := 1, slots := 6, locals := 184 } : Room) s m args below meth c H locs 0 0 Q (F0 m 306 ls []) := by
  obtain ⟨hx, hb, hml, hown, hts⟩ := id F
  have cv_bills : CallW ({ frames := 9, cells := 1, slots := 6, locals := 184 } : Room) s args RL RX3 90 yX3_bills cX3_bills 1 (some .int) wsX3_bills ({ frames := 0, cells := 0, slots := 0, locals := 0 } : Room) 0 0 0 := cwV 0 hts gL_act_X3_bills rfl rfl rfl (by decide +kernel) ⟨Nat.le_of_ble_eq_true rfl, Nat.le_of_ble_eq_true rfl⟩
  have cw_settles_k : vx_CSW ({ frames := 9, cells := 1, slots := 6, locals := 184 } : Room) s args RL 117 yL_settles cL_settles 4 (some .int) [(0, 6, 7, 13), (0, 6, 11, 19)] wsL_settles ({ frames := 8, cells := 1, slots := 6, locals := 133 } : Room) 1 6 3 := vx_cwSW 3 hts gL_act_L_settles rfl rfl rfl (by decide +kernel) ⟨Nat.le_of_ble_eq_true rfl, Nat.le_of_ble_eq_true rfl⟩
  refine lv_aload_n hx hb dL_act_306 rfl (lv_at hl 0 rfl) ?_
  refine zkV (v := B 11 0) kCA (ci := 3) (q0 := 0) F (zwCA hP hD hS hA) hK (c_X3_bills l D cI cZ a H.size (B) (R) (E) (td) ) cv_bills rfl rfl (by decide) rfl rfl hl.1 rfl (Nat.le_of_ble_eq_true rfl) dL_act_307 ⟨Nat.le_of_ble_eq_true rfl, Nat.le_of_ble_eq_true rfl⟩ (fun H locs hP hD hS => ?_)
  rw [hB]
  refine lv_if_ne (tgt := 317) hx hb dL_act_310 (by decide) (fun c310 => ?_) (fun c310 => ?_)
  · -- 310 taken
    exact absurd (by rw [hn0]; rfl) c310
  · -- 310 on
    rw [show (0 : Int32) = nI 0 from rfl] at c310
    rw [nI_eq (by omega) (by omega)] at c310
    refine lv_iconst (v := nI (0)) hx hb dL_act_313 (by decide) ?_
    refine lv_goto (tgt := 323) hx hb dL_act_314 (by decide) ?_
    refine lv_istore_n (lv' := [(3, .int (nI (0))), (0, .ref (a 0)), (2, .int (nI (y)))]) hx hb dL_act_323 rfl hl (by decide) rfl (fun ls hl => ?_)
    refine lv_iconst (v := nI (0)) hx hb dL_act_324 (by decide) ?_
    refine lv_istore (lv' := [(4, .int (nI (0))), (3, .int (nI (0))), (0, .ref (a 0)), (2, .int (nI (y)))]) hx hb dL_act_325 hl (by decide) rfl (fun ls hl => ?_)
    refine lv_iload hx hb dL_act_327 (lv_at hl 0 rfl) ?_
    refine lv_aload_n hx hb dL_act_329 rfl (lv_at hl 2 rfl) ?_
    refine zkV (v := B 11 0) kCA (ci := 3) (q0 := 0) F (zwCA hP hD hS hA) hK (c_X3_bills l D cI cZ a H.size (B) (R) (E) (td) ) cv_bills rfl rfl (by decide) rfl rfl hl.1 rfl (Nat.le_of_ble_eq_true rfl) dL_act_330 ⟨Nat.le_of_ble_eq_true rfl, Nat.le_of_ble_eq_true rfl⟩ (fun H locs hP hD hS => ?_)
    rw [hB]
    refine lv_icmp_ge (tgt := 359) hx hb dL_act_333 (by decide) (fun c333 => ?_) (fun c333 => ?_)
    · -- 333 taken
      rw [nI_leI (by omega) (by omega)] at c333
      refine lv_aload_n hx hb dL_act_359 rfl (lv_at hl 2 rfl) ?_
      refine lv_iload_n hx hb dL_act_360 rfl (lv_at hl 1 rfl) ?_
      refine lv_iload_n hx hb dL_act_361 rfl (lv_at hl 3 rfl) ?_
      refine lv_iconst (v := nI (2)) hx hb dL_act_362 (by decide) ?_
      refine lv_rem (x := y) (d := 2) hx hb rfl rfl dL_act_363 (by omega) (by omega) (by omega) ?_
      refine lv_if_ne (tgt := 371) hx hb dL_act_364 (by decide) (fun c364 => ?_) (fun c364 => ?_)
      · -- 364 taken
        rw [show (0 : Int32) = nI 0 from rfl] at c364
        rw [nI_eq (by omega) (by omega)] at c364
        refine lv_iconst (v := nI (0)) hx hb dL_act_371 (by decide) ?_
        refine zkW (v := (-2000000001)) kCA F (zwCA hP hD hS hA) hK hX hZ (c_L_settles_k l hfl D cI cZ a H.size (B) (R) (E) (td) (n) (nI (0)) (nI (0)) (1) ((-2000000001)) (by first | assumption | omega) (by first | assumption | omega) (sk1 (Or.inr (by rw [hB]; exact nI_nlt (by omega) (by omega)))) (by decide) rfl) cw_settles_k (by decide) rfl rfl hl.1 rfl (Nat.le_of_ble_eq_true rfl) dL_act_372 ⟨Nat.le_of_ble_eq_true rfl, Nat.le_of_ble_eq_true rfl⟩ (fun H locs hP hD hS => ?_)
        refine W.widen (k := 1) (n := 6) (Nat.le_of_ble_eq_true rfl) (Nat.le_of_ble_eq_true rfl) ?_
        exact k375 ((-2000000001)) (B) (R) (E) (td) (by simp only [actB, actR, actA, actP, actK, actC, actS, actV, aAm, aRt, hn0, if_true, if_false, ite_true, ite_false, reduceIte, not_true, not_false_eq_true, and_self, and_true, true_and, and_false, false_and]) _ _ _ hP hD hS (lv_sub hl [2, 3] rfl)
      · -- 364 on
        rw [show (0 : Int32) = nI 0 from rfl] at c364
        rw [nI_eq (by omega) (by omega)] at c364
        refine lv_iconst (v := nI (1)) hx hb dL_act_367 (by decide) ?_
        refine lv_goto (tgt := 372) hx hb dL_act_368 (by decide) ?_
        refine zkW (v := (-2000000001)) kCA F (zwCA hP hD hS hA) hK hX hZ (c_L_settles_k l hfl D cI cZ a H.size (B) (R) (E) (td) (n) (nI (0)) (nI (1)) (1) ((-2000000001)) (by first | assumption | omega) (by first | assumption | omega) (sk1 (Or.inr (by rw [hB]; exact nI_nlt (by omega) (by omega)))) (by decide) rfl) cw_settles_k (by decide) rfl rfl hl.1 rfl (Nat.le_of_ble_eq_true rfl) dL_act_372 ⟨Nat.le_of_ble_eq_true rfl, Nat.le_of_ble_eq_true rfl⟩ (fun H locs hP hD hS => ?_)
        refine W.widen (k := 1) (n := 6) (Nat.le_of_ble_eq_true rfl) (Nat.le_of_ble_eq_true rfl) ?_
        exact k375 ((-2000000001)) (B) (R) (E) (td) (by simp only [actB, actR, actA, actP, actK, actC, actS, actV, aAm, aRt, hn0, if_true, if_false, ite_true, ite_false, reduceIte, not_true, not_false_eq_true, and_self, and_true, true_and, and_false, false_and]) _ _ _ hP hD hS (lv_sub hl [2, 3] rfl)
    · -- 333 on
      exact absurd (nI_le (by omega) (by omega)) c333
set_option maxHeartbeats 8000000 in
set_option maxRecDepth 100000 in
theorem ac_s1 {p : Program} {l : Launch} {e : Env} {s : State} {m : MethodId} {args : Array Value} {below : List Frame} {meth : Method} {c : Code} {Q : State → Prop} {D : va_G} {A : Nat → Prop} {cI cZ : ClassId} {a : Nat → Nat} {B R E : Nat → Nat → Int32} {td : Int32} {H : Heap} {locs : List Loc} {ls : Array Slot} (n : Nat) (q : Nat) (y : Nat) (F : CallFix p m c cL_act 5 s args wsL_act RL) (hK : va_K D vwCl (tyl cI cZ) s) (hA : ∀ q : Nat, s.heap.size ≤ q → A q) (hX : ExB s) (hZ : ExZ A s s.heap) (hfl : l.stackTraces = false) (hB : B 11 0 = nI n) (hn : n ≤ 40) (hR : R 8 0 = nI q) (hq : q ≤ 30) (I7 : ∀ j, R 7 j = 0 ∨ R 7 j = 1) (hy : y < 134217728) (hn0 : 0 < n) (hP : va_P D vwCl (wCA a cI cZ B R E (td)) H) (hD : va_D A (wCA a cI cZ B R E (td))) (hS : va_S A s.heap H locs) (hl : lv_has ls 5 [(0, .ref (a 0)), (2, .int (nI (y)))])
    (k359 : ∀ (fb : Nat) (hfb : fb = fbl B n n (y % n)) (hfl2 : fb < n) (H : Heap) (locs : List Loc) (ls : Array Slot), va_P D vwCl (wCA a cI cZ B R E (td)) H → va_D A (wCA a cI cZ B R E (td)) → va_S A s.heap H locs → lv_has ls 5 [(0, .ref (a 0)), (2, .int (nI (y))), (3, .int (nI (fb)))] → W p l e ({ frames := 9, cells := 1, slots := 6, locals := 184 } : Room) s m args below meth c H locs 0 0 Q (F0 m 359 ls [])) :
    W p l e ({ frames := 9, cells := 1, slots := 6, locals := 184 } : Room) s m args below meth c H locs 0 0 Q (F0 m 306 ls []) := by
  obtain ⟨hx, hb, hml, hown, hts⟩ := id F
  have cv_bills : CallW ({ frames := 9, cells := 1, slots := 6, locals := 184 } : Room) s args RL RX3 90 yX3_bills cX3_bills 1 (some .int) wsX3_bills ({ frames := 0, cells := 0, slots := 0, locals := 0 } : Room) 0 0 0 := cwV 0 hts gL_act_X3_bills rfl rfl rfl (by decide +kernel) ⟨Nat.le_of_ble_eq_true rfl, Nat.le_of_ble_eq_true rfl⟩
  have cw_disputed_0 : vx_CSW ({ frames := 9, cells := 1, slots := 6, locals := 184 } : Room) s args RL 132 yL_disputed cL_disputed 3 (some .int) [(0, 5, 6, 13)] wsL_disputed ({ frames := 2, cells := 0, slots := 0, locals := 42 } : Room) 0 0 2 := vx_cwSW 2 hts gL_act_L_disputed rfl rfl rfl (by decide +kernel) ⟨Nat.le_of_ble_eq_true rfl, Nat.le_of_ble_eq_true rfl⟩
  refine lv_aload_n hx hb dL_act_306 rfl (lv_at hl 0 rfl) ?_
  refine zkV (v := B 11 0) kCA (ci := 3) (q0 := 0) F (zwCA hP hD hS hA) hK (c_X3_bills l D cI cZ a H.size (B) (R) (E) (td) ) cv_bills rfl rfl (by decide) rfl rfl hl.1 rfl (Nat.le_of_ble_eq_true rfl) dL_act_307 ⟨Nat.le_of_ble_eq_true rfl, Nat.le_of_ble_eq_true rfl⟩ (fun H locs hP hD hS => ?_)
  rw [hB]
  refine lv_if_ne (tgt := 317) hx hb dL_act_310 (by decide) (fun c310 => ?_) (fun c310 => ?_)
  · -- 310 taken
    rw [show (0 : Int32) = nI 0 from rfl] at c310
    rw [nI_eq (by omega) (by omega)] at c310
    refine lv_iload_n hx hb dL_act_317 rfl (lv_at hl 1 rfl) ?_
    refine lv_aload_n hx hb dL_act_318 rfl (lv_at hl 0 rfl) ?_
    refine zkV (v := B 11 0) kCA (ci := 3) (q0 := 0) F (zwCA hP hD hS hA) hK (c_X3_bills l D cI cZ a H.size (B) (R) (E) (td) ) cv_bills rfl rfl (by decide) rfl rfl hl.1 rfl (Nat.le_of_ble_eq_true rfl) dL_act_319 ⟨Nat.le_of_ble_eq_true rfl, Nat.le_of_ble_eq_true rfl⟩ (fun H locs hP hD hS => ?_)
    rw [hB]
    refine lv_rem (x := y) (d := n) hx hb rfl rfl dL_act_322 (by omega) (by omega) (by omega) ?_
    refine lv_istore_n (lv' := [(3, .int (nI (y % n))), (0, .ref (a 0)), (2, .int (nI (y)))]) hx hb dL_act_323 rfl hl (by decide) rfl (fun ls hl => ?_)
    refine lv_iconst (v := nI (0)) hx hb dL_act_324 (by decide) ?_
    refine lv_istore (lv' := [(4, .int (nI (0))), (3, .int (nI (y % n))), (0, .ref (a 0)), (2, .int (nI (y)))]) hx hb dL_act_325 hl (by decide) rfl (fun ls hl => ?_)
    have loop327 : ∀ (fu : Nat) (b : Nat) (k : Nat) (hb9 : b < n) (hk : k ≤ n) (hf : fbl B n (n - k) b = fbl B n n (y % n)) (hfu : n - k < fu) (H : Heap) (locs : List Loc) (hP : va_P D vwCl (wCA a cI cZ B R E (td)) H) (hD : va_D A (wCA a cI cZ B R E (td))) (hS : va_S A s.heap H locs) (ls : Array Slot) (hl : lv_has ls 5 [(0, .ref (a 0)), (2, .int (nI (y))), (3, .int (nI (b))), (4, .int (nI (k)))]), W p l e ({ frames := 9, cells := 1, slots := 6, locals := 184 } : Room) s m args below meth c H locs 0 0 Q (F0 m 327 ls []) := by
      clear hP hD hS hl
      intro fu327
      induction fu327 with
      | zero => intro b k hb9 hk hf hfu; exact absurd hfu (Nat.not_lt_zero _)
      | succ fu327 ih327 =>
        intro b k hb9 hk hf hfu H locs hP hD hS ls hl
        refine lv_iload hx hb dL_act_327 (lv_at hl 3 rfl) ?_
        refine lv_aload_n hx hb dL_act_329 rfl (lv_at hl 0 rfl) ?_
        refine zkV (v := B 11 0) kCA (ci := 3) (q0 := 0) F (zwCA hP hD hS hA) hK (c_X3_bills l D cI cZ a H.size (B) (R) (E) (td) ) cv_bills rfl rfl (by decide) rfl rfl hl.1 rfl (Nat.le_of_ble_eq_true rfl) dL_act_330 ⟨Nat.le_of_ble_eq_true rfl, Nat.le_of_ble_eq_true rfl⟩ (fun H locs hP hD hS => ?_)
        rw [hB]
        refine lv_icmp_ge (tgt := 359) hx hb dL_act_333 (by decide) (fun c333 => ?_) (fun c333 => ?_)
        · -- 333 taken
          rw [nI_leI (by omega) (by omega)] at c333
          exact k359 (b) (by rw [← hf, show n - k = 0 by omega]; rfl) hb9 _ _ _ hP hD hS (lv_sub hl [0, 1, 2] rfl)
        · -- 333 on
          rw [nI_leI (by omega) (by omega)] at c333
          refine lv_aload_n hx hb dL_act_336 rfl (lv_at hl 0 rfl) ?_
          refine lv_iload_n hx hb dL_act_337 rfl (lv_at hl 2 rfl) ?_
          refine zkW (v := B 8 (b)) kCA F (zwCA hP hD hS hA) hK hX hZ (c_L_disputed_0 l D cI cZ a H.size (B) (R) (E) (td) (n) (b) (by first | assumption | omega) (by first | assumption | omega) (by first | assumption | omega)) cw_disputed_0 (by decide) rfl rfl hl.1 rfl (Nat.le_of_ble_eq_true rfl) dL_act_338 ⟨Nat.le_of_ble_eq_true rfl, Nat.le_of_ble_eq_true rfl⟩ (fun H locs hP hD hS => ?_)
          refine lv_if_ne (tgt := 359) hx hb dL_act_341 (by decide) (fun c341 => ?_) (fun c341 => ?_)
          · -- 341 taken
            exact k359 (b) (by rw [← hf, fbl_y c341]) hb9 _ _ _ hP hD hS (lv_sub hl [0, 1, 2] rfl)
          · -- 341 on
            refine lv_iload_n hx hb dL_act_344 rfl (lv_at hl 2 rfl) ?_
            refine lv_iconst (v := nI (1)) hx hb dL_act_345 (by decide) ?_
            refine lv_sum (x := b) (d := 1) hx hb rfl rfl dL_act_346 ?_
            refine lv_aload_n hx hb dL_act_347 rfl (lv_at hl 0 rfl) ?_
            refine zkV (v := B 11 0) kCA (ci := 3) (q0 := 0) F (zwCA hP hD hS hA) hK (c_X3_bills l D cI cZ a H.size (B) (R) (E) (td) ) cv_bills rfl rfl (by decide) rfl rfl hl.1 rfl (Nat.le_of_ble_eq_true rfl) dL_act_348 ⟨Nat.le_of_ble_eq_true rfl, Nat.le_of_ble_eq_true rfl⟩ (fun H locs hP hD hS => ?_)
            rw [hB]
            refine lv_rem (x := b + 1) (d := n) hx hb rfl rfl dL_act_351 (by omega) (by omega) (by omega) ?_
            refine lv_istore_n (lv' := [(3, .int (nI ((b + 1) % (n)))), (0, .ref (a 0)), (2, .int (nI (y))), (4, .int (nI (k)))]) hx hb dL_act_352 rfl hl (by decide) rfl (fun ls hl => ?_)
            refine lv_iinc (v := nI (k + 1)) (lv' := [(4, .int (nI (k + 1))), (3, .int (nI ((b + 1) % (n)))), (0, .ref (a 0)), (2, .int (nI (y)))]) hx hb dL_act_353 hl (k := 3) rfl (nI_1 _) (by decide) rfl (fun ls hl => ?_)
            refine lv_goto (tgt := 327) hx hb dL_act_356 (by decide) ?_
            exact ih327 ((b + 1) % n) (k + 1) (Nat.mod_lt _ hn0) (by omega) (by rw [← hf, show n - k = (n - (k + 1)) + 1 by omega, fbl, if_pos c341]) (by omega) _ _ hP hD hS _ (lv_sub hl [2, 3, 1, 0] rfl)
    exact loop327 _ (y % n) (0) (Nat.mod_lt _ hn0) (Nat.zero_le _) (rfl) (Nat.lt_succ_self _) _ _ hP hD hS _ (lv_sub hl [2, 3, 1, 0] rfl)
  · -- 310 on
    exact absurd c310 (nI_ne0 hn0 (by omega))
set_option maxHeartbeats 8000000 in
set_option maxRecDepth 100000 in
theorem ac_s2 {p : Program} {l : Launch} {e : Env} {s : State} {m : MethodId} {args : Array Value} {below : List Frame} {meth : Method} {c : Code} {Q : State → Prop} {D : va_G} {A : Nat → Prop} {cI cZ : ClassId} {a : Nat → Nat} {B R E : Nat → Nat → Int32} {td : Int32} {H : Heap} {locs : List Loc} {ls : Array Slot} (n : Nat) (q : Nat) (y : Nat) (fb : Nat) (F : CallFix p m c cL_act 5 s args wsL_act RL) (hK : va_K D vwCl (tyl cI cZ) s) (hA : ∀ q : Nat, s.heap.size ≤ q → A q) (hX : ExB s) (hZ : ExZ A s s.heap) (hfl : l.stackTraces = false) (hB : B 11 0 = nI n) (hn : n ≤ 40) (hR : R 8 0 = nI q) (hq : q ≤ 30) (I7 : ∀ j, R 7 j = 0 ∨ R 7 j = 1) (hy : y < 134217728) (hn0 : 0 < n) (hfb : fb = fbl B n n (y % n)) (hfl2 : fb < n) (hP : va_P D vwCl (wCA a cI cZ B R E (td)) H) (hD : va_D A (wCA a cI cZ B R E (td))) (hS : va_S A s.heap H locs) (hl : lv_has ls 5 [(0, .ref (a 0)), (2, .int (nI (y))), (3, .int (nI (fb)))])
    (k375 : ∀ (r : Int32) (B' : Nat → Nat → Int32) (R' : Nat → Nat → Int32) (E' : Nat → Nat → Int32) (td' : Int32) (hres : actS B R E td n y = (r, B', R', E', td')) (H : Heap) (locs : List Loc) (ls : Array Slot), va_P D vwCl (wCA a cI cZ B' R' E' (td')) H → va_D A (wCA a cI cZ B' R' E' (td')) → va_S A s.heap H locs → lv_has ls 5 [(0, .ref (a 0)), (2, .int (nI (y)))] → W p l e ({ frames := 9, cells := 1, slots := 6, locals := 184 } : Room) s m args below meth c H locs 1 6 Q (F0 m 375 ls [.int (r)])) :
    W p l e ({ frames := 9, cells := 1, slots := 6, locals := 184 } : Room) s m args below meth c H locs 0 0 Q (F0 m 359 ls []) := by
  obtain ⟨hx, hb, hml, hown, hts⟩ := id F
  have cw_settles_k : vx_CSW ({ frames := 9, cells := 1, slots := 6, locals := 184 } : Room) s args RL 117 yL_settles cL_settles 4 (some .int) [(0, 6, 7, 13), (0, 6, 11, 19)] wsL_settles ({ frames := 8, cells := 1, slots := 6, locals := 133 } : Room) 1 6 3 := vx_cwSW 3 hts gL_act_L_settles rfl rfl rfl (by decide +kernel) ⟨Nat.le_of_ble_eq_true rfl, Nat.le_of_ble_eq_true rfl⟩
  have cw_settles_0 : vx_CSW ({ frames := 9, cells := 1, slots := 6, locals := 184 } : Room) s args RL 117 yL_settles cL_settles 4 (some .int) [(0, 6, 7, 13), (0, 6, 11, 19)] wsL_settles ({ frames := 2, cells := 0, slots := 0, locals := 45 } : Room) 0 0 3 := vx_cwSW 3 hts gL_act_L_settles rfl rfl rfl (by decide +kernel) ⟨Nat.le_of_ble_eq_true rfl, Nat.le_of_ble_eq_true rfl⟩
  have hn9 : ¬ n = 0 := by omega
  refine lv_aload_n hx hb dL_act_359 rfl (lv_at hl 0 rfl) ?_
  refine lv_iload_n hx hb dL_act_360 rfl (lv_at hl 2 rfl) ?_
  refine lv_iload_n hx hb dL_act_361 rfl (lv_at hl 1 rfl) ?_
  refine lv_iconst (v := nI (2)) hx hb dL_act_362 (by decide) ?_
  refine lv_rem (x := y) (d := 2) hx hb rfl rfl dL_act_363 (by omega) (by omega) (by omega) ?_
  refine lv_if_ne (tgt := 371) hx hb dL_act_364 (by decide) (fun c364 => ?_) (fun c364 => ?_)
  · -- 364 taken
    rw [show (0 : Int32) = nI 0 from rfl] at c364
    rw [nI_eq (by omega) (by omega)] at c364
    refine lv_iconst (v := nI (0)) hx hb dL_act_371 (by decide) ?_
    by_cases hj : B 8 fb = 0
    · -- hj True
      refine zkW (v := (-2000000003)) kCA F (zwCA hP hD hS hA) hK hX hZ (c_L_settles_k l hfl D cI cZ a H.size (B) (R) (E) (td) (n) (nI (fb)) (nI (0)) (2) ((-2000000003)) (by first | assumption | omega) (by first | assumption | omega) (sk2 hB hn hfl2 hj) (by decide) rfl) cw_settles_k (by decide) rfl rfl hl.1 rfl (Nat.le_of_ble_eq_true rfl) dL_act_372 ⟨Nat.le_of_ble_eq_true rfl, Nat.le_of_ble_eq_true rfl⟩ (fun H locs hP hD hS => ?_)
      refine W.widen (k := 1) (n := 6) (Nat.le_of_ble_eq_true rfl) (Nat.le_of_ble_eq_true rfl) ?_
      exact k375 ((-2000000003)) (B) (R) (E) (td) (by simp only [actB, actR, actA, actP, actK, actC, actS, actV, aAm, aRt, ← hfb, hn9, hj, c364, if_true, if_false, ite_true, ite_false, reduceIte, not_true, not_false_eq_true, and_self, and_true, true_and, and_false, false_and]) _ _ _ hP hD hS (lv_sub hl [0, 1] rfl)
    · -- hj False
      refine zcW (wf := fun (_ : Unit) => (wCA a cI cZ (edD B (fb) (nI (0))) R E (td))) kCA F (zwCA hP hD hS hA) hK hX hZ (c_L_settles_0 l D cI cZ a H.size (B) (R) (E) (td) (n) (fb) (nI (0)) (by first | assumption | omega) (by first | assumption | omega) hfl2 hj) cw_settles_0 (by decide) (fun _ => rfl) rfl hl.1 rfl (Nat.le_of_ble_eq_true rfl) dL_act_372 ⟨Nat.le_of_ble_eq_true rfl, Nat.le_of_ble_eq_true rfl⟩ (fun r372 u H locs hw hP hD hS => ?_)
      have hw : r372 = B 8 (fb) := hw
      subst hw
      have hP : va_P D vwCl (wCA a cI cZ (edD B (fb) (nI (0))) R E (td)) H := hP
      have hD : va_D A (wCA a cI cZ (edD B (fb) (nI (0))) R E (td)) := hD
      refine W.widen (k := 1) (n := 6) (Nat.le_of_ble_eq_true rfl) (Nat.le_of_ble_eq_true rfl) ?_
      exact k375 (B 8 (fb)) ((edD B (fb) (nI (0)))) (R) (E) (td) (by simp only [actB, actR, actA, actP, actK, actC, actS, actV, aAm, aRt, ← hfb, hn9, hj, c364, if_true, if_false, ite_true, ite_false, reduceIte, not_true, not_false_eq_true, and_self, and_true, true_and, and_false, false_and]) _ _ _ hP hD hS (lv_sub hl [0, 1] rfl)
  · -- 364 on
    rw [show (0 : Int32) = nI 0 from rfl] at c364
    rw [nI_eq (by omega) (by omega)] at c364
    refine lv_iconst (v := nI (1)) hx hb dL_act_367 (by decide) ?_
    refine lv_goto (tgt := 372) hx hb dL_act_368 (by decide) ?_
    by_cases hj : B 8 fb = 0
    · -- hj True
      refine zkW (v := (-2000000003)) kCA F (zwCA hP hD hS hA) hK hX hZ (c_L_settles_k l hfl D cI cZ a H.size (B) (R) (E) (td) (n) (nI (fb)) (nI (1)) (2) ((-2000000003)) (by first | assumption | omega) (by first | assumption | omega) (sk2 hB hn hfl2 hj) (by decide) rfl) cw_settles_k (by decide) rfl rfl hl.1 rfl (Nat.le_of_ble_eq_true rfl) dL_act_372 ⟨Nat.le_of_ble_eq_true rfl, Nat.le_of_ble_eq_true rfl⟩ (fun H locs hP hD hS => ?_)
      refine W.widen (k := 1) (n := 6) (Nat.le_of_ble_eq_true rfl) (Nat.le_of_ble_eq_true rfl) ?_
      exact k375 ((-2000000003)) (B) (R) (E) (td) (by simp only [actB, actR, actA, actP, actK, actC, actS, actV, aAm, aRt, ← hfb, hn9, hj, c364, if_true, if_false, ite_true, ite_false, reduceIte, not_true, not_false_eq_true, and_self, and_true, true_and, and_false, false_and]) _ _ _ hP hD hS (lv_sub hl [0, 1] rfl)
    · -- hj False
      refine zcW (wf := fun (_ : Unit) => (wCA a cI cZ (edD B (fb) (nI (1))) R E (td))) kCA F (zwCA hP hD hS hA) hK hX hZ (c_L_settles_0 l D cI cZ a H.size (B) (R) (E) (td) (n) (fb) (nI (1)) (by first | assumption | omega) (by first | assumption | omega) hfl2 hj) cw_settles_0 (by decide) (fun _ => rfl) rfl hl.1 rfl (Nat.le_of_ble_eq_true rfl) dL_act_372 ⟨Nat.le_of_ble_eq_true rfl, Nat.le_of_ble_eq_true rfl⟩ (fun r372 u H locs hw hP hD hS => ?_)
      have hw : r372 = B 8 (fb) := hw
      subst hw
      have hP : va_P D vwCl (wCA a cI cZ (edD B (fb) (nI (1))) R E (td)) H := hP
      have hD : va_D A (wCA a cI cZ (edD B (fb) (nI (1))) R E (td)) := hD
      refine W.widen (k := 1) (n := 6) (Nat.le_of_ble_eq_true rfl) (Nat.le_of_ble_eq_true rfl) ?_
      exact k375 (B 8 (fb)) ((edD B (fb) (nI (1)))) (R) (E) (td) (by simp only [actB, actR, actA, actP, actK, actC, actS, actV, aAm, aRt, ← hfb, hn9, hj, c364, if_true, if_false, ite_true, ite_false, reduceIte, not_true, not_false_eq_true, and_self, and_true, true_and, and_false, false_and]) _ _ _ hP hD hS (lv_sub hl [0, 1] rfl)
set_option maxHeartbeats 8000000 in
set_option maxRecDepth 100000 in
theorem ac_v {p : Program} {l : Launch} {e : Env} {s : State} {m : MethodId} {args : Array Value} {below : List Frame} {meth : Method} {c : Code} {Q : State → Prop} {D : va_G} {A : Nat → Prop} {cI cZ : ClassId} {a : Nat → Nat} {B R E : Nat → Nat → Int32} {td : Int32} {H : Heap} {locs : List Loc} {ls : Array Slot} (n : Nat) (q : Nat) (y : Nat) (F : CallFix p m c cL_act 5 s args wsL_act RL) (hK : va_K D vwCl (tyl cI cZ) s) (hA : ∀ q : Nat, s.heap.size ≤ q → A q) (hX : ExB s) (hZ : ExZ A s s.heap) (hfl : l.stackTraces = false) (hB : B 11 0 = nI n) (hn : n ≤ 40) (hR : R 8 0 = nI q) (hq : q ≤ 30) (I7 : ∀ j, R 7 j = 0 ∨ R 7 j = 1) (hy : y < 134217728) (hP : va_P D vwCl (wCA a cI cZ B R E (td)) H) (hD : va_D A (wCA a cI cZ B R E (td))) (hS : va_S A s.heap H locs) (hl : lv_has ls 5 [(0, .ref (a 0)), (2, .int (nI (y)))])
    (k385 : ∀ (r : Int32) (B' : Nat → Nat → Int32) (R' : Nat → Nat → Int32) (E' : Nat → Nat → Int32) (td' : Int32) (hres : actV B R E td y = (r, B', R', E', td')) (H : Heap) (locs : List Loc) (ls : Array Slot), va_P D vwCl (wCA a cI cZ B' R' E' (td')) H → va_D A (wCA a cI cZ B' R' E' (td')) → va_S A s.heap H locs → lv_has ls 5 [(0, .ref (a 0)), (2, .int (nI (y)))] → W p l e ({ frames := 9, cells := 1, slots := 6, locals := 184 } : Room) s m args below meth c H locs 1 6 Q (F0 m 385 ls [.int (r)])) :
    W p l e ({ frames := 9, cells := 1, slots := 6, locals := 184 } : Room) s m args below meth c H locs 0 0 Q (F0 m 376 ls []) := by
  obtain ⟨hx, hb, hml, hown, hts⟩ := id F
  have cw_advances_0 : vx_CSW ({ frames := 9, cells := 1, slots := 6, locals := 184 } : Room) s args RL 121 yL_advances cL_advances 3 (some .int) [(0, 5, 6, 16)] wsL_advances ({ frames := 2, cells := 0, slots := 0, locals := 43 } : Room) 0 0 2 := vx_cwSW 2 hts gL_act_L_advances rfl rfl rfl (by decide +kernel) ⟨Nat.le_of_ble_eq_true rfl, Nat.le_of_ble_eq_true rfl⟩
  refine lv_aload_n hx hb dL_act_376 rfl (lv_at hl 0 rfl) ?_
  refine lv_iconst (v := nI (1)) hx hb dL_act_377 (by decide) ?_
  refine lv_iload_n hx hb dL_act_378 rfl (lv_at hl 1 rfl) ?_
  refine lv_iconst (v := nI (3)) hx hb dL_act_379 (by decide) ?_
  refine lv_rem (x := y) (d := 3) hx hb rfl rfl dL_act_380 (by omega) (by omega) (by omega) ?_
  refine lv_sum (x := 1) (d := y % 3) hx hb rfl rfl dL_act_381 ?_
  refine zcW (wf := fun (_ : Unit) => (wCA a cI cZ B R E ((td + (nI ((1) + (y % 3))))))) kCA F (zwCA hP hD hS hA) hK hX hZ (c_L_advances_0 l D cI cZ a H.size (B) (R) (E) (td) (nI ((1) + (y % 3))) (by show ¬ nI _ < 1; exact nI_nlt (b := 1) (by omega) (by omega)) (nI_le (b := 100) (by omega) (by decide))) cw_advances_0 (by decide) (fun _ => rfl) rfl hl.1 rfl (Nat.le_of_ble_eq_true rfl) dL_act_382 ⟨Nat.le_of_ble_eq_true rfl, Nat.le_of_ble_eq_true rfl⟩ (fun r382 u H locs hw hP hD hS => ?_)
  have hw : r382 = td + (nI ((1) + (y % 3))) := hw
  subst hw
  have hP : va_P D vwCl (wCA a cI cZ B R E ((td + (nI ((1) + (y % 3)))))) H := hP
  have hD : va_D A (wCA a cI cZ B R E ((td + (nI ((1) + (y % 3)))))) := hD
  refine W.widen (k := 1) (n := 6) (Nat.le_of_ble_eq_true rfl) (Nat.le_of_ble_eq_true rfl) ?_
  exact k385 (td + (nI ((1) + (y % 3)))) (B) (R) (E) ((td + (nI ((1) + (y % 3))))) (by simp only [actB, actR, actA, actP, actK, actC, actS, actV, aAm, aRt, eq_self, if_true, if_false, ite_true, ite_false, reduceIte, not_true, not_false_eq_true, and_self, and_true, true_and, and_false, false_and]) _ _ _ hP hD hS (lv_sub hl [0, 1] rfl)
set_option maxHeartbeats 8000000 in
set_option maxRecDepth 100000 in
theorem c_L_act (l : Launch) (hfl : l.stackTraces = false) (D : va_G) (cI cZ : ClassId) (sz : Nat) (a : Nat → Nat) (B R E : Nat → Nat → Int32) (td : Int32) (n : Nat) (q : Nat) (x : Nat) (hB : B 11 0 = nI n) (hn : n ≤ 40) (hR : R 8 0 = nI q) (hq : q ≤ 30) (I7 : ∀ j, R 7 j = 0 ∨ R 7 j = 1) (hx9 : x < 2147483648) : Met l yL_act wsL_act ({ frames := 9, cells := 1, slots := 6, locals := 184 } : Room) (va_Pc [.ref (a 0), .int (nI (x))] (PreX D cI cZ (wCA a cI cZ B R E (td)) sz)) (va_Qi (fun (r : Int32) (_ : Unit) => r = (actF B R E td n q x).1) (fun (_ : Unit) => PostW D cI cZ (va_A (wCA a cI cZ B R E (td)) sz) (wCA a cI cZ (actF B R E td n q x).2.1 (actF B R E td n q x).2.2.1 (actF B R E td n q x).2.2.2.1 ((actF B R E td n q x).2.2.2.2))) (va_A (wCA a cI cZ B R E (td)) sz)) 1 6 (va_A (wCA a cI cZ B R E (td)) sz) := by
  refine Met.ofW (cc := cL_act) (maxL := 5) (ret := (some .int)) (by decide) rfl ?_
  intro p e s m args below meth c s₁ BB hml hv
  obtain ⟨rfl, ⟨hsz, hP, hK, hD0⟩, hX, hZ⟩ := hv
  have hx := BB.exec
  have hb := BB.bytes
  have hr := BB.returns
  have hts := atoms_spec (ws := wsL_act) BB.pre
  have hown : s.vm.findClass RL = some m.cls := findClass_of_methodNamed BB.named
  have hlocks := BB.notSynchronized
  clear BB
  subst hsz
  have hD := hD0.self (sz := s.heap.size)
  clear hD0
  generalize hAe : va_A (wCA a cI cZ B R E (td)) s.heap.size = A at hD hZ ⊢
  have hA : ∀ q : Nat, s.heap.size ≤ q → A q := fun q h => by rw [← hAe]; exact Or.inr h
  clear hAe
  have hl := lv_entry ([.ref (a 0), .int (nI (x))]) (n := 5) (Nat.le_of_ble_eq_true rfl)
  rw [lg_entry_eq]
  generalize (lg_sl ([.ref (a 0), .int (nI (x))]) ++ List.replicate (5 - (lg_sl ([.ref (a 0), .int (nI (x))])).length) Slot.unset).toArray = ls at hl ⊢
  have hl : lv_has ls 5 [(0, .ref (a 0)), (1, .int (nI (x)))] := hl
  have F : CallFix p m c cL_act 5 s ([.ref (a 0), .int (nI (x))] : List Value).toArray wsL_act RL := ⟨hx, hb, hml, hown, hts⟩
  have hS : va_S A s.heap s.heap [] := va_S.rf
  refine lv_iload_n hx hb dL_act_0 rfl (lv_at hl 1 rfl) ?_
  refine lv_bipush (v := nI (16)) hx hb dL_act_1 (by decide) ?_
  refine lv_quo (x := x) (d := 16) hx hb rfl rfl dL_act_3 (by omega) (by omega) (by omega) ?_
  refine lv_istore_n (lv' := [(2, .int (nI (x / 16))), (0, .ref (a 0)), (1, .int (nI (x)))]) hx hb dL_act_4 rfl hl (by decide) rfl (fun ls hl => ?_)
  refine lv_iload_n hx hb dL_act_5 rfl (lv_at hl 2 rfl) ?_
  refine lv_bipush (v := nI (16)) hx hb dL_act_6 (by decide) ?_
  refine lv_rem (x := x) (d := 16) hx hb rfl rfl dL_act_8 (by omega) (by omega) (by omega) ?_
  have hy : x / 16 < 134217728 := by omega
  have hl : lv_has ls 5 [(0, .ref (a 0)), (2, .int (nI (x / 16)))] := lv_sub hl [1, 0] rfl
  have hk : x % 16 < 16 := Nat.mod_lt _ (by decide)
  have hF : actF B R E td n q x = actG B R E td n q (x % 16) (x / 16) := rfl
  rw [hF]
  clear hF
  generalize x / 16 = y at hy hl ⊢
  generalize x % 16 = k at hk ⊢
  match k, hk with
  | 0, _ =>
    refine lv_tableIn (off := 75) (tgt := 84) hx hb dL_act_9 (by decide +kernel) (by decide +kernel) (by decide +kernel) (by decide) ?_
    exact ac_b n q y F hK hA hX hZ hfl hB hn hR hq I7 hy hP hD hS hl (fun r B' R' E' td' hres H locs ls hP hD hS hl => by
        have e0 : actG B R E td n q 0 y = (r, B', R', E', td') := hres
        rw [e0]
        exact W.iret (v := r) hx hb hr (fun t ht hW => ⟨⟨r, (), rfl, rfl, by rw [ht]; exact hP, va_K.moved hW.alike hK, hD⟩, hS.F ht⟩) hS.2.2 dL_act_145)
  | 1, _ =>
    refine lv_tableIn (off := 75) (tgt := 84) hx hb dL_act_9 (by decide +kernel) (by decide +kernel) (by decide +kernel) (by decide) ?_
    exact ac_b n q y F hK hA hX hZ hfl hB hn hR hq I7 hy hP hD hS hl (fun r B' R' E' td' hres H locs ls hP hD hS hl => by
        have e0 : actG B R E td n q 1 y = (r, B', R', E', td') := hres
        rw [e0]
        exact W.iret (v := r) hx hb hr (fun t ht hW => ⟨⟨r, (), rfl, rfl, by rw [ht]; exact hP, va_K.moved hW.alike hK, hD⟩, hS.F ht⟩) hS.2.2 dL_act_145)
  | 2, _ =>
    refine lv_tableIn (off := 75) (tgt := 84) hx hb dL_act_9 (by decide +kernel) (by decide +kernel) (by decide +kernel) (by decide) ?_
    exact ac_b n q y F hK hA hX hZ hfl hB hn hR hq I7 hy hP hD hS hl (fun r B' R' E' td' hres H locs ls hP hD hS hl => by
        have e0 : actG B R E td n q 2 y = (r, B', R', E', td') := hres
        rw [e0]
        exact W.iret (v := r) hx hb hr (fun t ht hW => ⟨⟨r, (), rfl, rfl, by rw [ht]; exact hP, va_K.moved hW.alike hK, hD⟩, hS.F ht⟩) hS.2.2 dL_act_145)
  | 3, _ =>
    refine lv_tableIn (off := 75) (tgt := 84) hx hb dL_act_9 (by decide +kernel) (by decide +kernel) (by decide +kernel) (by decide) ?_
    exact ac_b n q y F hK hA hX hZ hfl hB hn hR hq I7 hy hP hD hS hl (fun r B' R' E' td' hres H locs ls hP hD hS hl => by
        have e0 : actG B R E td n q 3 y = (r, B', R', E', td') := hres
        rw [e0]
        exact W.iret (v := r) hx hb hr (fun t ht hW => ⟨⟨r, (), rfl, rfl, by rw [ht]; exact hP, va_K.moved hW.alike hK, hD⟩, hS.F ht⟩) hS.2.2 dL_act_145)
  | 4, _ =>
    refine lv_tableIn (off := 75) (tgt := 84) hx hb dL_act_9 (by decide +kernel) (by decide +kernel) (by decide +kernel) (by decide) ?_
    exact ac_b n q y F hK hA hX hZ hfl hB hn hR hq I7 hy hP hD hS hl (fun r B' R' E' td' hres H locs ls hP hD hS hl => by
        have e0 : actG B R E td n q 4 y = (r, B', R', E', td') := hres
        rw [e0]
        exact W.iret (v := r) hx hb hr (fun t ht hW => ⟨⟨r, (), rfl, rfl, by rw [ht]; exact hP, va_K.moved hW.alike hK, hD⟩, hS.F ht⟩) hS.2.2 dL_act_145)
  | 5, _ =>
    refine lv_tableIn (off := 137) (tgt := 146) hx hb dL_act_9 (by decide +kernel) (by decide +kernel) (by decide +kernel) (by decide) ?_
    exact ac_r n q y F hK hA hX hZ hfl hB hn hR hq I7 hy hP hD hS hl (fun r B' R' E' td' hres H locs ls hP hD hS hl => by
        have e0 : actG B R E td n q 5 y = (r, B', R', E', td') := hres
        rw [e0]
        exact W.iret (v := r) hx hb hr (fun t ht hW => ⟨⟨r, (), rfl, rfl, by rw [ht]; exact hP, va_K.moved hW.alike hK, hD⟩, hS.F ht⟩) hS.2.2 dL_act_179)
  | 6, _ =>
    refine lv_tableIn (off := 137) (tgt := 146) hx hb dL_act_9 (by decide +kernel) (by decide +kernel) (by decide +kernel) (by decide) ?_
    exact ac_r n q y F hK hA hX hZ hfl hB hn hR hq I7 hy hP hD hS hl (fun r B' R' E' td' hres H locs ls hP hD hS hl => by
        have e0 : actG B R E td n q 6 y = (r, B', R', E', td') := hres
        rw [e0]
        exact W.iret (v := r) hx hb hr (fun t ht hW => ⟨⟨r, (), rfl, rfl, by rw [ht]; exact hP, va_K.moved hW.alike hK, hD⟩, hS.F ht⟩) hS.2.2 dL_act_179)
  | 7, _ =>
    refine lv_tableIn (off := 137) (tgt := 146) hx hb dL_act_9 (by decide +kernel) (by decide +kernel) (by decide +kernel) (by decide) ?_
    exact ac_r n q y F hK hA hX hZ hfl hB hn hR hq I7 hy hP hD hS hl (fun r B' R' E' td' hres H locs ls hP hD hS hl => by
        have e0 : actG B R E td n q 7 y = (r, B', R', E', td') := hres
        rw [e0]
        exact W.iret (v := r) hx hb hr (fun t ht hW => ⟨⟨r, (), rfl, rfl, by rw [ht]; exact hP, va_K.moved hW.alike hK, hD⟩, hS.F ht⟩) hS.2.2 dL_act_179)
  | 8, _ =>
    refine lv_tableIn (off := 171) (tgt := 180) hx hb dL_act_9 (by decide +kernel) (by decide +kernel) (by decide +kernel) (by decide) ?_
    exact ac_u n q y F hK hA hX hZ hfl hB hn hR hq I7 hy hP hD hS hl (fun r B' R' E' td' hres H locs ls hP hD hS hl => by
        have e0 : actG B R E td n q 8 y = (r, B', R', E', td') := hres
        rw [e0]
        exact W.iret (v := r) hx hb hr (fun t ht hW => ⟨⟨r, (), rfl, rfl, by rw [ht]; exact hP, va_K.moved hW.alike hK, hD⟩, hS.F ht⟩) hS.2.2 dL_act_211)
  | 9, _ =>
    refine lv_tableIn (off := 203) (tgt := 212) hx hb dL_act_9 (by decide +kernel) (by decide +kernel) (by decide +kernel) (by decide) ?_
    exact ac_a n q y F hK hA hX hZ hfl hB hn hR hq I7 hy hP hD hS hl (fun r B' R' E' td' hres H locs ls hP hD hS hl => by
        have e0 : actG B R E td n q 9 y = (r, B', R', E', td') := hres
        rw [e0]
        exact W.iret (v := r) hx hb hr (fun t ht hW => ⟨⟨r, (), rfl, rfl, by rw [ht]; exact hP, va_K.moved hW.alike hK, hD⟩, hS.F ht⟩) hS.2.2 dL_act_239)
  | 10, _ =>
    refine lv_tableIn (off := 231) (tgt := 240) hx hb dL_act_9 (by decide +kernel) (by decide +kernel) (by decide +kernel) (by decide) ?_
    exact ac_p n q y F hK hA hX hZ hfl hB hn hR hq I7 hy hP hD hS hl (fun r B' R' E' td' hres H locs ls hP hD hS hl => by
        have e0 : actG B R E td n q 10 y = (r, B', R', E', td') := hres
        rw [e0]
        exact W.iret (v := r) hx hb hr (fun t ht hW => ⟨⟨r, (), rfl, rfl, by rw [ht]; exact hP, va_K.moved hW.alike hK, hD⟩, hS.F ht⟩) hS.2.2 dL_act_261)
  | 11, _ =>
    refine lv_tableIn (off := 253) (tgt := 262) hx hb dL_act_9 (by decide +kernel) (by decide +kernel) (by decide +kernel) (by decide) ?_
    exact ac_k n q y F hK hA hX hZ hfl hB hn hR hq I7 hy hP hD hS hl (fun r B' R' E' td' hres H locs ls hP hD hS hl => by
        have e0 : actG B R E td n q 11 y = (r, B', R', E', td') := hres
        rw [e0]
        exact W.iret (v := r) hx hb hr (fun t ht hW => ⟨⟨r, (), rfl, rfl, by rw [ht]; exact hP, va_K.moved hW.alike hK, hD⟩, hS.F ht⟩) hS.2.2 dL_act_283)
  | 12, _ =>
    refine lv_tableIn (off := 275) (tgt := 284) hx hb dL_act_9 (by decide +kernel) (by decide +kernel) (by decide +kernel) (by decide) ?_
    exact ac_c n q y F hK hA hX hZ hfl hB hn hR hq I7 hy hP hD hS hl (fun r B' R' E' td' hres H locs ls hP hD hS hl => by
        have e0 : actG B R E td n q 12 y = (r, B', R', E', td') := hres
        rw [e0]
        exact W.iret (v := r) hx hb hr (fun t ht hW => ⟨⟨r, (), rfl, rfl, by rw [ht]; exact hP, va_K.moved hW.alike hK, hD⟩, hS.F ht⟩) hS.2.2 dL_act_305)
  | 13, _ =>
    refine lv_tableIn (off := 297) (tgt := 306) hx hb dL_act_9 (by decide +kernel) (by decide +kernel) (by decide +kernel) (by decide) ?_
    rcases Nat.eq_zero_or_pos n with hn0 | hn0
    · exact ac_s0 n q y F hK hA hX hZ hfl hB hn hR hq I7 hy hn0 hP hD hS hl (fun r B' R' E' td' hres H locs ls hP hD hS hl => by
          have e0 : actG B R E td n q 13 y = (r, B', R', E', td') := hres
          rw [e0]
          exact W.iret (v := r) hx hb hr (fun t ht hW => ⟨⟨r, (), rfl, rfl, by rw [ht]; exact hP, va_K.moved hW.alike hK, hD⟩, hS.F ht⟩) hS.2.2 dL_act_375)
    · refine ac_s1 n q y F hK hA hX hZ hfl hB hn hR hq I7 hy hn0 hP hD hS hl (fun fb hfb hfl2 H locs ls hP hD hS hl => ?_)
      exact ac_s2 n q y fb F hK hA hX hZ hfl hB hn hR hq I7 hy hn0 hfb hfl2 hP hD hS (lv_sub hl [0, 1, 2] rfl) (fun r B' R' E' td' hres H locs ls hP hD hS hl => by
          have e0 : actG B R E td n q 13 y = (r, B', R', E', td') := hres
          rw [e0]
          exact W.iret (v := r) hx hb hr (fun t ht hW => ⟨⟨r, (), rfl, rfl, by rw [ht]; exact hP, va_K.moved hW.alike hK, hD⟩, hS.F ht⟩) hS.2.2 dL_act_375)
  | 14, _ =>
    refine lv_tableIn (off := 297) (tgt := 306) hx hb dL_act_9 (by decide +kernel) (by decide +kernel) (by decide +kernel) (by decide) ?_
    rcases Nat.eq_zero_or_pos n with hn0 | hn0
    · exact ac_s0 n q y F hK hA hX hZ hfl hB hn hR hq I7 hy hn0 hP hD hS hl (fun r B' R' E' td' hres H locs ls hP hD hS hl => by
          have e0 : actG B R E td n q 14 y = (r, B', R', E', td') := hres
          rw [e0]
          exact W.iret (v := r) hx hb hr (fun t ht hW => ⟨⟨r, (), rfl, rfl, by rw [ht]; exact hP, va_K.moved hW.alike hK, hD⟩, hS.F ht⟩) hS.2.2 dL_act_375)
    · refine ac_s1 n q y F hK hA hX hZ hfl hB hn hR hq I7 hy hn0 hP hD hS hl (fun fb hfb hfl2 H locs ls hP hD hS hl => ?_)
      exact ac_s2 n q y fb F hK hA hX hZ hfl hB hn hR hq I7 hy hn0 hfb hfl2 hP hD hS (lv_sub hl [0, 1, 2] rfl) (fun r B' R' E' td' hres H locs ls hP hD hS hl => by
          have e0 : actG B R E td n q 14 y = (r, B', R', E', td') := hres
          rw [e0]
          exact W.iret (v := r) hx hb hr (fun t ht hW => ⟨⟨r, (), rfl, rfl, by rw [ht]; exact hP, va_K.moved hW.alike hK, hD⟩, hS.F ht⟩) hS.2.2 dL_act_375)
  | 15, _ =>
    refine lv_tableOut (tgt := 376) hx hb dL_act_9 (Or.inr (by decide +kernel)) (by decide) ?_
    exact ac_v n q y F hK hA hX hZ hfl hB hn hR hq I7 hy hP hD hS hl (fun r B' R' E' td' hres H locs ls hP hD hS hl => by
        have e0 : actG B R E td n q 15 y = (r, B', R', E', td') := hres
        rw [e0]
        exact W.iret (v := r) hx hb hr (fun t ht hW => ⟨⟨r, (), rfl, rfl, by rw [ht]; exact hP, va_K.moved hW.alike hK, hD⟩, hS.F ht⟩) hS.2.2 dL_act_385)
  | k + 16, hk => exact absurd hk (by omega)
