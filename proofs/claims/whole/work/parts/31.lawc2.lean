theorem pbkK_0i {tt n q : Nat} {B R M : Nat → Nat → Int32} {td vx : Int32} (h : Rel tt B R td M n q) (hk : pbkK R vx = 0) : ∃ r, r < q ∧ vx = nI r ∧ R 5 r = 0 ∧ ¬ R 3 r = 0 := by
  unfold pbkK at hk
  split at hk
  · cases hk
  · rename_i z
    obtain ⟨r, h1, h2, e2⟩ := rk_ix h z
    rw [e2] at hk
    split at hk
    · cases hk
    · rename_i y
      exact ⟨r, h1, h2, Classical.not_not.mp fun w => y (Or.inl w), fun w => y (Or.inr w)⟩
theorem bncK_0i {tt n q : Nat} {B R M : Nat → Nat → Int32} {td vx : Int32} (h : Rel tt B R td M n q) (hk : bncK R vx = 0) : ∃ r, r < q ∧ vx = nI r ∧ R 5 r = 0 ∧ R 4 r ≤ 0 := by
  unfold bncK at hk
  split at hk
  · cases hk
  · rename_i z
    obtain ⟨r, h1, h2, e2⟩ := rk_ix h z
    rw [e2] at hk
    split at hk
    · cases hk
    · rename_i y
      exact ⟨r, h1, h2, Classical.not_not.mp fun w => y (Or.inl w), Classical.not_not.mp fun w => y (Or.inr w)⟩
theorem aplK_0i {tt n q : Nat} {B R M : Nat → Nat → Int32} {td vx : Int32} (h : Rel tt B R td M n q) (hk : aplK R vx = 0) : ∃ r, r < q ∧ vx = nI r ∧ R 5 r = 0 ∧ ¬ R 0 r = -1 := by
  unfold aplK at hk
  split at hk
  · cases hk
  · rename_i z
    obtain ⟨r, h1, h2, e2⟩ := rk_ix h z
    rw [e2] at hk
    split at hk
    · cases hk
    · rename_i y
      exact ⟨r, h1, h2, Classical.not_not.mp fun w => y (Or.inl w), fun w => y (Or.inr w)⟩
theorem asgK_0i {tt n q : Nat} {B R M : Nat → Nat → Int32} {td vx cu : Int32} (h : Rel tt B R td M n q) (hk : asgK R vx cu = 0) : ∃ r, r < q ∧ vx = nI r ∧ R 5 r = 0 ∧ R 0 r = -1 ∧ ¬ cu < 0 ∧ cu < 8 := by
  unfold asgK at hk
  split at hk
  · cases hk
  · rename_i z
    obtain ⟨r, h1, h2, e2⟩ := rk_ix h (fun w => z (Or.inl w))
    rw [e2] at hk
    split at hk
    · cases hk
    · rename_i y
      exact ⟨r, h1, h2, Classical.not_not.mp fun w => y (Or.inl w), Classical.not_not.mp fun w => y (Or.inr w), fun w => z (Or.inr (Or.inl w)), Classical.not_not.mp fun w => z (Or.inr (Or.inr w))⟩
theorem mbL_0 {rc : Nat} : ∀ {k i uu : Nat} {M : Nat → Nat → Int32}, (mbL rc k i uu M).2 0 0 = M 0 0
  | 0, _, _, _ => rfl
  | k + 1, i, uu, M => by
    rw [mbL, mbL_0, mbs_at]
    simp
theorem mbo_0 {M : Nat → Nat → Int32} {rc n : Nat} : mbo M rc n 0 0 = 0 := by
  unfold mbo
  simp [pt_at, mbL_0]
theorem mold_0 {rc : Nat} {cv : Int32} : ∀ {k i : Nat} {M : Nat → Nat → Int32}, mold rc cv k i M 0 0 = M 0 0
  | 0, _, _ => rfl
  | k + 1, i, M => by
    rw [mold]
    split
    · rfl
    · split
      · rw [mold_0, mpay_o (by decide)]
      · rw [mold_0]
theorem mex_0 {rc : Nat} : ∀ {f k : Nat} {M : Nat → Nat → Int32}, mex rc f k M 0 0 = M 0 0
  | 0, _, _ => rfl
  | f + 1, k, M => by rw [mex, mex_0, mpay_o (by decide)]
theorem moth_0 {M : Nat → Nat → Int32} {rc n : Nat} : moth M rc n 0 0 = M 0 0 := by
  unfold moth
  split
  · rfl
  · rw [mold_0, mex_0, mcS_o (by decide)]
theorem mrcv_0 {M : Nat → Nat → Int32} {q n : Nat} {cu am rf : Int32} : mrcv M q cu am rf n 0 0 = 0 := by
  unfold mrcv
  split
  · rw [moth_0]; simp [mrc0, pt_at]
  · rw [moth_0, mnam_o (by decide)]; simp [mrc0, pt_at]
section LWB
variable {p : Program} {l : Launch} {e : Env} {R : Room} {s : State} {m : MethodId} {args : Array Value} {below : List Frame} {meth : Method} {c : Code} {H : Heap} {locs : List Loc} {cells slots : Nat} {Q : State → Prop}
variable {ls : Array Slot} {D : va_G} {A : Nat → Prop} {a g : Nat → Nat} {cI cZ cL : ClassId} {B C E M : Nat → Nat → Int32} {td : Int32} {oo : Nat → Int64} {b L i tt n q : Nat} {xs : Nat → Int32}
set_option maxHeartbeats 4000000 in
set_option maxRecDepth 100000 in
theorem lc_receive (F : LwF p l R s m args c D A cI cZ cL b L xs) (S : LwS s D A a g cI cZ cL b i tt n q B C E td oo M H locs ls) (hi : i + 6 ≤ L) (ht : tt ≤ 1000) (hcs : cells + 1 ≤ 1086 ∧ slots + 6 ≤ 14466)
    (kk : LwK p l e R s m args below meth c Q D A a g cI cZ cL b i tt cells slots) : W p l e R s m args below meth c H locs cells slots Q (F0 m 272 ls []) := by
  obtain ⟨hx, hb, hml, hown, hts, hK3, hA, hSc, hbl, hbA, hX, hZ, hfl, hL, rfl⟩ := F
  obtain ⟨h, hP, hD, hS, hl⟩ := S
  have hK : va_K D vwCl (tyl cI cZ) s := hK3.sub (tys' := tyl cI cZ) [0, 1] rfl
  have hB : B 11 0 = nI n := h.1.1.1
  have hM : M 2 0 = nI n := h.1.1.2.1
  have hn : n ≤ 40 := h.1.1.2.2.1
  have hC : C 8 0 = nI q := h.1.2.2.1.1
  have hMq : M 15 0 = nI q := h.1.2.2.1.2.1
  have hq : q ≤ 30 := h.1.2.2.1.2.2.1
  have hso : ∀ i j, i ≤ j → j < n → M 6 i ≤ M 6 j := h.1.1.2.2.2.2.2.2.2.1
  have hs0 : ∀ i, i < n → 0 ≤ M 6 i := fun i hi => leI.mpr (by rw [i0]; exact (h.1.1.2.2.2.2.2.2.1 i hi).2.2.2.2.2.2.2.2.2.1)
  refine lv_aload_n hx hb dL_law_272 rfl (lv_at hl 1 rfl) ?_
  refine arg_ld hx hb hl 0 4 rfl rfl 1 hi hL hSc hbl hbA hS (by decide) rfl dL_law_273 dL_law_274 dL_law_276 rfl dL_law_277 dL_law_278 ?_
  refine arg_ld hx hb hl 0 4 rfl rfl 2 hi hL hSc hbl hbA hS (by decide) rfl dL_law_279 dL_law_280 dL_law_282 rfl dL_law_283 dL_law_284 ?_
  refine arg_ld hx hb hl 0 4 rfl rfl 3 hi hL hSc hbl hbA hS (by decide) rfl dL_law_285 dL_law_286 dL_law_288 rfl dL_law_289 dL_law_290 ?_
  refine lv_aload_n hx hb dL_law_291 rfl (lv_at hl 3 rfl) ?_
  by_cases hk : rcvK q (xs (i + 1)) (xs (i + 2)) (xs (i + 3)) = 0
  · obtain ⟨k0, k1, k2, k3, k4, k5⟩ := rcvK_0 hk
    have h1 := sim_rcv (cu := (xs (i + 1))) (am := (xs (i + 2))) (rf := (xs (i + 3))) (E := E) h k0 k2 k4
    have h' := rl_t (tt' := tt + 1) h1 (Nat.le_succ _)
    refine zcSL (wf := fun (_ : Unit) => wLM a g cI cZ cL (rcvS B C E q (xs (i + 1)) (xs (i + 2)) (xs (i + 3)) n td).1 (rcvS B C E q (xs (i + 1)) (xs (i + 2)) (xs (i + 3)) n td).2.1 (rcvS B C E q (xs (i + 1)) (xs (i + 2)) (xs (i + 3)) n td).2.2 td (vp_updL oo 0 (nI q).toInt64) M) ksLL ⟨hx, hb, hml, hown, hts⟩ (zwLL hP hD hS hA) hK3 hX hZ (c_L_receive_0 l D cI cZ cL a H.size B C E td n q (xs (i + 1)) (xs (i + 2)) (xs (i + 3)) oo hB hn hC k0 k1 k2 k3 k4 k5) (vx_cwSW 5 hts gL_law_L_receive rfl rfl rfl (by decide +kernel) ⟨Nat.le_of_ble_eq_true rfl, Nat.le_of_ble_eq_true rfl⟩) (by decide) (fun _ => rfl) rfl hl.1 rfl (Nat.le_of_ble_eq_true rfl) dL_law_292 ⟨by show cells + 0 ≤ 1086; omega, by show slots + 0 ≤ 14466; omega⟩ (fun r u H locs hw hP hD hS => ?_)
    have hw : r = 0 := hw
    subst hw
    refine lv_istore (lv' := [(5, .int (0)), (0, .ref b), (1, .ref (a 0)), (2, .ref (g 0)), (3, .ref (a 26)), (4, .int (nI i))]) hx hb dL_law_295 hl (by decide) rfl (fun ls hl => ?_)
    refine lv_aload_n hx hb dL_law_297 rfl (lv_at hl 3 rfl) ?_
    refine arg_ld hx hb hl 1 5 rfl rfl 1 hi hL hSc hbl hbA hS (by decide) rfl dL_law_298 dL_law_299 dL_law_301 rfl dL_law_302 dL_law_303 ?_
    refine arg_ld hx hb hl 1 5 rfl rfl 2 hi hL hSc hbl hbA hS (by decide) rfl dL_law_304 dL_law_305 dL_law_307 rfl dL_law_308 dL_law_309 ?_
    refine arg_ld hx hb hl 1 5 rfl rfl 3 hi hL hSc hbl hbA hS (by decide) rfl dL_law_310 dL_law_311 dL_law_313 rfl dL_law_314 dL_law_315 ?_
    refine zcVi (ci := 4) (q0 := 0) (wf := fun (u : Nat → Nat → Int32) => wLM a g cI cZ cL (rcvS B C E q (xs (i + 1)) (xs (i + 2)) (xs (i + 3)) n td).1 (rcvS B C E q (xs (i + 1)) (xs (i + 2)) (xs (i + 3)) n td).2.1 (rcvS B C E q (xs (i + 1)) (xs (i + 2)) (xs (i + 3)) n td).2.2 td (vp_updL oo 0 (nI q).toInt64) u) ksMM ⟨hx, hb, hml, hown, hts⟩ (zwMM hP hD hS hA) hK (c_X4_receive_0 l D cI cZ g H.size M n q (xs (i + 1)) (xs (i + 2)) (xs (i + 3)) hM hn hMq k0 k1 k2 k3 k4 k5 hso hs0) (cwV 3 hts gL_law_X4_receive rfl rfl rfl (by decide +kernel) ⟨Nat.le_of_ble_eq_true rfl, Nat.le_of_ble_eq_true rfl⟩) rfl rfl (by decide) (fun _ => rfl) rfl hl.1 rfl (Nat.le_of_ble_eq_true rfl) dL_law_316 ⟨by show cells + 0 + 0 ≤ 1086; omega, by show slots + 0 + 0 ≤ 14466; omega⟩ (fun r u H locs hw hP hD hS => ?_)
    obtain ⟨rfl, rfl⟩ := hw
    refine lv_istore (lv' := [(6, .int ((nI q))), (5, .int (0)), (0, .ref b), (1, .ref (a 0)), (2, .ref (g 0)), (3, .ref (a 26)), (4, .int (nI i))]) hx hb dL_law_319 hl (by decide) rfl (fun ls hl => ?_)
    refine lw_tail (tgt := 1547) hx hb hml hown hts hK3 hA hP hD hS ⟨by decide, by decide⟩ ⟨by show cells + 0 + 0 ≤ 1086; omega, by show slots + 0 + 0 ≤ 14466; omega⟩ hl mrcv_0 (fun _ => congrArg Int32.toInt64 rfl) dL_law_321 dL_law_322 dL_law_325 dL_law_327 dL_law_332 dL_law_334 dL_law_337 dL_law_338 dL_law_339 dL_law_340 dL_law_342 dL_law_343 dL_law_344 dL_law_349 (by decide) (fun H locs hP hD hS => ?_)
    exact W.widen (by omega) (by omega) (kk _ _ _ _ _ _ _ _ _ _ _ ⟨h', hP, hD, hS, lv_sub hl [2, 3, 4, 5, 6] rfl⟩)
  · have hK5 : ¬ nI (rcvK q (xs (i + 1)) (xs (i + 2)) (xs (i + 3))) = 0 := nI_ne0 (by omega) (by rcases (rcvK_c : (rcvK q (xs (i + 1)) (xs (i + 2)) (xs (i + 3))) = 0 ∨ (rcvK q (xs (i + 1)) (xs (i + 2)) (xs (i + 3))) = 1 ∨ (rcvK q (xs (i + 1)) (xs (i + 2)) (xs (i + 3))) = 2 ∨ (rcvK q (xs (i + 1)) (xs (i + 2)) (xs (i + 3))) = 3) with z | z | z | z <;> omega)
    refine zcSL (wf := fun (_ : Unit) => wLM a g cI cZ cL B C E td oo M) ksLL ⟨hx, hb, hml, hown, hts⟩ (zwLL hP hD hS hA) hK3 hX hZ (c_L_receive_k l hfl D cI cZ cL a H.size B C E td q (xs (i + 1)) (xs (i + 2)) (xs (i + 3)) oo hC hq hk) (vx_cwSW 5 hts gL_law_L_receive rfl rfl rfl (by decide +kernel) ⟨Nat.le_of_ble_eq_true rfl, Nat.le_of_ble_eq_true rfl⟩) (by decide) (fun _ => rfl) rfl hl.1 rfl (Nat.le_of_ble_eq_true rfl) dL_law_292 ⟨hcs.1, hcs.2⟩ (fun r u H locs hw hP hD hS => ?_)
    have hw : r = nI (rcvK q (xs (i + 1)) (xs (i + 2)) (xs (i + 3))) := hw
    subst hw
    refine lv_istore (lv' := [(5, .int (nI (rcvK q (xs (i + 1)) (xs (i + 2)) (xs (i + 3))))), (0, .ref b), (1, .ref (a 0)), (2, .ref (g 0)), (3, .ref (a 26)), (4, .int (nI i))]) hx hb dL_law_295 hl (by decide) rfl (fun ls hl => ?_)
    refine lv_aload_n hx hb dL_law_297 rfl (lv_at hl 3 rfl) ?_
    refine arg_ld hx hb hl 1 5 rfl rfl 1 hi hL hSc hbl hbA hS (by decide) rfl dL_law_298 dL_law_299 dL_law_301 rfl dL_law_302 dL_law_303 ?_
    refine arg_ld hx hb hl 1 5 rfl rfl 2 hi hL hSc hbl hbA hS (by decide) rfl dL_law_304 dL_law_305 dL_law_307 rfl dL_law_308 dL_law_309 ?_
    refine arg_ld hx hb hl 1 5 rfl rfl 3 hi hL hSc hbl hbA hS (by decide) rfl dL_law_310 dL_law_311 dL_law_313 rfl dL_law_314 dL_law_315 ?_
    refine zcVi (ci := 4) (q0 := 0) (wf := fun (u : Nat → Nat → Int32) => wLM a g cI cZ cL B C E td oo u) ksMM ⟨hx, hb, hml, hown, hts⟩ (zwMM hP hD hS hA) hK (c_X4_receive_k l D cI cZ g H.size M q (xs (i + 1)) (xs (i + 2)) (xs (i + 3)) hMq hq hk) (cwV 3 hts gL_law_X4_receive rfl rfl rfl (by decide +kernel) ⟨Nat.le_of_ble_eq_true rfl, Nat.le_of_ble_eq_true rfl⟩) rfl rfl (by decide) (fun _ => rfl) rfl hl.1 rfl (Nat.le_of_ble_eq_true rfl) dL_law_316 ⟨by show cells + 1 + 0 ≤ 1086; omega, by show slots + 6 + 0 ≤ 14466; omega⟩ (fun r u H locs hw hP hD hS => ?_)
    obtain ⟨rfl, rfl⟩ := hw
    refine lv_istore (lv' := [(6, .int (0)), (5, .int (nI (rcvK q (xs (i + 1)) (xs (i + 2)) (xs (i + 3))))), (0, .ref b), (1, .ref (a 0)), (2, .ref (g 0)), (3, .ref (a 26)), (4, .int (nI i))]) hx hb dL_law_319 hl (by decide) rfl (fun ls hl => ?_)
    refine lw_tail (tgt := 1547) hx hb hml hown hts hK3 hA hP hD hS ⟨by decide, by decide⟩ ⟨by show cells + 1 + 0 ≤ 1086; omega, by show slots + 6 + 0 ≤ 14466; omega⟩ hl (by rw [pt_s]) (fun z => absurd z hK5) dL_law_321 dL_law_322 dL_law_325 dL_law_327 dL_law_332 dL_law_334 dL_law_337 dL_law_338 dL_law_339 dL_law_340 dL_law_342 dL_law_343 dL_law_344 dL_law_349 (by decide) (fun H locs hP hD hS => ?_)
    exact W.widen (by omega) (by omega) (kk _ _ _ _ _ _ _ _ _ _ _ ⟨(rl_t (rl_0 h) (Nat.le_succ _)), hP, hD, hS, lv_sub hl [2, 3, 4, 5, 6] rfl⟩)
set_option maxHeartbeats 4000000 in
set_option maxRecDepth 100000 in
theorem lc_payBack (F : LwF p l R s m args c D A cI cZ cL b L xs) (S : LwS s D A a g cI cZ cL b i tt n q B C E td oo M H locs ls) (hi : i + 6 ≤ L) (ht : tt ≤ 1000) (hcs : cells + 1 ≤ 1086 ∧ slots + 6 ≤ 14466)
    (kk : LwK p l e R s m args below meth c Q D A a g cI cZ cL b i tt cells slots) : W p l e R s m args below meth c H locs cells slots Q (F0 m 476 ls []) := by
  obtain ⟨hx, hb, hml, hown, hts, hK3, hA, hSc, hbl, hbA, hX, hZ, hfl, hL, rfl⟩ := F
  obtain ⟨h, hP, hD, hS, hl⟩ := S
  have hK : va_K D vwCl (tyl cI cZ) s := hK3.sub (tys' := tyl cI cZ) [0, 1] rfl
  have hB : B 11 0 = nI n := h.1.1.1
  have hM : M 2 0 = nI n := h.1.1.2.1
  have hn : n ≤ 40 := h.1.1.2.2.1
  have hC : C 8 0 = nI q := h.1.2.2.1.1
  have hMq : M 15 0 = nI q := h.1.2.2.1.2.1
  have hq : q ≤ 30 := h.1.2.2.1.2.2.1
  have hso : ∀ i j, i ≤ j → j < n → M 6 i ≤ M 6 j := h.1.1.2.2.2.2.2.2.2.1
  have hs0 : ∀ i, i < n → 0 ≤ M 6 i := fun i hi => leI.mpr (by rw [i0]; exact (h.1.1.2.2.2.2.2.2.1 i hi).2.2.2.2.2.2.2.2.2.1)
  refine lv_aload_n hx hb dL_law_476 rfl (lv_at hl 1 rfl) ?_
  refine arg_ld hx hb hl 0 4 rfl rfl 1 hi hL hSc hbl hbA hS (by decide) rfl dL_law_477 dL_law_478 dL_law_480 rfl dL_law_481 dL_law_482 ?_
  refine lv_aload_n hx hb dL_law_483 rfl (lv_at hl 3 rfl) ?_
  by_cases hk : pbkK C (xs (i + 1)) = 0
  · obtain ⟨rc, hrc, e1, k5, k3⟩ := pbkK_0i h.1 hk
    have h1 := sim_pbk h hrc k5 k3
    have h' := rl_t (tt' := tt + 1) h1 (Nat.le_succ _)
    rw [e1]
    refine zcSL (wf := fun (_ : Unit) => wLM a g cI cZ cL B (pbR C rc) E td (vp_updL oo 0 (C 3 rc).toInt64) M) ksLL ⟨hx, hb, hml, hown, hts⟩ (zwLL hP hD hS hA) hK3 hX hZ (c_L_payBack_0 l D cI cZ cL a H.size B C E td q rc oo hC hq hrc k5 k3) (vx_cwSW 3 hts gL_law_L_payBack rfl rfl rfl (by decide +kernel) ⟨Nat.le_of_ble_eq_true rfl, Nat.le_of_ble_eq_true rfl⟩) (by decide) (fun _ => rfl) rfl hl.1 rfl (Nat.le_of_ble_eq_true rfl) dL_law_484 ⟨by show cells + 0 ≤ 1086; omega, by show slots + 0 ≤ 14466; omega⟩ (fun r u H locs hw hP hD hS => ?_)
    have hw : r = 0 := hw
    subst hw
    refine lv_istore (lv' := [(5, .int (0)), (0, .ref b), (1, .ref (a 0)), (2, .ref (g 0)), (3, .ref (a 26)), (4, .int (nI i))]) hx hb dL_law_487 hl (by decide) rfl (fun ls hl => ?_)
    refine lv_aload_n hx hb dL_law_489 rfl (lv_at hl 3 rfl) ?_
    refine arg_ld hx hb hl 1 5 rfl rfl 1 hi hL hSc hbl hbA hS (by decide) rfl dL_law_490 dL_law_491 dL_law_493 rfl dL_law_494 dL_law_495 ?_
    rw [e1]
    refine zcVi (ci := 4) (q0 := 0) (wf := fun (u : Nat → Nat → Int32) => wLM a g cI cZ cL B (pbR C rc) E td (vp_updL oo 0 (C 3 rc).toInt64) u) ksMM ⟨hx, hb, hml, hown, hts⟩ (zwMM hP hD hS hA) hK (c_X4_payBack_0 l D cI cZ g H.size M q rc hMq hq hrc (by rw [← (rr_at h.1.2.2.1 hrc).2.2.2.2]; exact k5) (by rw [← (rr_at h.1.2.2.1 hrc).2.2.1]; exact k3)) (cwV 1 hts gL_law_X4_payBack rfl rfl rfl (by decide +kernel) ⟨Nat.le_of_ble_eq_true rfl, Nat.le_of_ble_eq_true rfl⟩) rfl rfl (by decide) (fun _ => rfl) rfl hl.1 rfl (Nat.le_of_ble_eq_true rfl) dL_law_496 ⟨by show cells + 0 + 0 ≤ 1086; omega, by show slots + 0 + 0 ≤ 14466; omega⟩ (fun r u H locs hw hP hD hS => ?_)
    obtain ⟨rfl, rfl⟩ := hw
    refine lv_istore (lv' := [(6, .int ((M 18 rc))), (5, .int (0)), (0, .ref b), (1, .ref (a 0)), (2, .ref (g 0)), (3, .ref (a 26)), (4, .int (nI i))]) hx hb dL_law_499 hl (by decide) rfl (fun ls hl => ?_)
    refine lw_tail (tgt := 1547) hx hb hml hown hts hK3 hA hP hD hS ⟨by decide, by decide⟩ ⟨by show cells + 0 + 0 ≤ 1086; omega, by show slots + 0 + 0 ≤ 14466; omega⟩ hl (by simp [mpbk, pt_at]) (fun _ => congrArg Int32.toInt64 (rr_at h.1.2.2.1 hrc).2.2.1) dL_law_501 dL_law_502 dL_law_505 dL_law_507 dL_law_512 dL_law_514 dL_law_517 dL_law_518 dL_law_519 dL_law_520 dL_law_522 dL_law_523 dL_law_524 dL_law_529 (by decide) (fun H locs hP hD hS => ?_)
    exact W.widen (by omega) (by omega) (kk _ _ _ _ _ _ _ _ _ _ _ ⟨h', hP, hD, hS, lv_sub hl [2, 3, 4, 5, 6] rfl⟩)
  · have hK5 : ¬ nI (pbkK C (xs (i + 1))) = 0 := nI_ne0 (by omega) (by rcases (pbkK_c : (pbkK C (xs (i + 1))) = 0 ∨ (pbkK C (xs (i + 1))) = 1 ∨ (pbkK C (xs (i + 1))) = 2) with z | z | z <;> omega)
    refine zcSL (wf := fun (_ : Unit) => wLM a g cI cZ cL B C E td oo M) ksLL ⟨hx, hb, hml, hown, hts⟩ (zwLL hP hD hS hA) hK3 hX hZ (c_L_payBack_k l hfl D cI cZ cL a H.size B C E td q (xs (i + 1)) oo hC hq hk) (vx_cwSW 3 hts gL_law_L_payBack rfl rfl rfl (by decide +kernel) ⟨Nat.le_of_ble_eq_true rfl, Nat.le_of_ble_eq_true rfl⟩) (by decide) (fun _ => rfl) rfl hl.1 rfl (Nat.le_of_ble_eq_true rfl) dL_law_484 ⟨hcs.1, hcs.2⟩ (fun r u H locs hw hP hD hS => ?_)
    have hw : r = nI (pbkK C (xs (i + 1))) := hw
    subst hw
    refine lv_istore (lv' := [(5, .int (nI (pbkK C (xs (i + 1))))), (0, .ref b), (1, .ref (a 0)), (2, .ref (g 0)), (3, .ref (a 26)), (4, .int (nI i))]) hx hb dL_law_487 hl (by decide) rfl (fun ls hl => ?_)
    refine lv_aload_n hx hb dL_law_489 rfl (lv_at hl 3 rfl) ?_
    refine arg_ld hx hb hl 1 5 rfl rfl 1 hi hL hSc hbl hbA hS (by decide) rfl dL_law_490 dL_law_491 dL_law_493 rfl dL_law_494 dL_law_495 ?_
    refine zcVi (ci := 4) (q0 := 0) (wf := fun (u : Nat → Nat → Int32) => wLM a g cI cZ cL B C E td oo u) ksMM ⟨hx, hb, hml, hown, hts⟩ (zwMM hP hD hS hA) hK (c_X4_payBack_k l D cI cZ g H.size M q (xs (i + 1)) hMq hq (by rw [rk_pbk h.1]; exact hk)) (cwV 1 hts gL_law_X4_payBack rfl rfl rfl (by decide +kernel) ⟨Nat.le_of_ble_eq_true rfl, Nat.le_of_ble_eq_true rfl⟩) rfl rfl (by decide) (fun _ => rfl) rfl hl.1 rfl (Nat.le_of_ble_eq_true rfl) dL_law_496 ⟨by show cells + 1 + 0 ≤ 1086; omega, by show slots + 6 + 0 ≤ 14466; omega⟩ (fun r u H locs hw hP hD hS => ?_)
    obtain ⟨rfl, rfl⟩ := hw
    refine lv_istore (lv' := [(6, .int (0)), (5, .int (nI (pbkK C (xs (i + 1))))), (0, .ref b), (1, .ref (a 0)), (2, .ref (g 0)), (3, .ref (a 26)), (4, .int (nI i))]) hx hb dL_law_499 hl (by decide) rfl (fun ls hl => ?_)
    refine lw_tail (tgt := 1547) hx hb hml hown hts hK3 hA hP hD hS ⟨by decide, by decide⟩ ⟨by show cells + 1 + 0 ≤ 1086; omega, by show slots + 6 + 0 ≤ 14466; omega⟩ hl (by rw [pt_s, rk_pbk h.1]) (fun z => absurd z hK5) dL_law_501 dL_law_502 dL_law_505 dL_law_507 dL_law_512 dL_law_514 dL_law_517 dL_law_518 dL_law_519 dL_law_520 dL_law_522 dL_law_523 dL_law_524 dL_law_529 (by decide) (fun H locs hP hD hS => ?_)
    exact W.widen (by omega) (by omega) (kk _ _ _ _ _ _ _ _ _ _ _ ⟨(rl_t (rl_0 h) (Nat.le_succ _)), hP, hD, hS, lv_sub hl [2, 3, 4, 5, 6] rfl⟩)
set_option maxHeartbeats 4000000 in
set_option maxRecDepth 100000 in
theorem lc_bounce (F : LwF p l R s m args c D A cI cZ cL b L xs) (S : LwS s D A a g cI cZ cL b i tt n q B C E td oo M H locs ls) (hi : i + 6 ≤ L) (ht : tt ≤ 1000) (hcs : cells + 1 ≤ 1086 ∧ slots + 6 ≤ 14466)
    (kk : LwK p l e R s m args below meth c Q D A a g cI cZ cL b i tt cells slots) : W p l e R s m args below meth c H locs cells slots Q (F0 m 532 ls []) := by
  obtain ⟨hx, hb, hml, hown, hts, hK3, hA, hSc, hbl, hbA, hX, hZ, hfl, hL, rfl⟩ := F
  obtain ⟨h, hP, hD, hS, hl⟩ := S
  have hK : va_K D vwCl (tyl cI cZ) s := hK3.sub (tys' := tyl cI cZ) [0, 1] rfl
  have hB : B 11 0 = nI n := h.1.1.1
  have hM : M 2 0 = nI n := h.1.1.2.1
  have hn : n ≤ 40 := h.1.1.2.2.1
  have hC : C 8 0 = nI q := h.1.2.2.1.1
  have hMq : M 15 0 = nI q := h.1.2.2.1.2.1
  have hq : q ≤ 30 := h.1.2.2.1.2.2.1
  have hso : ∀ i j, i ≤ j → j < n → M 6 i ≤ M 6 j := h.1.1.2.2.2.2.2.2.2.1
  have hs0 : ∀ i, i < n → 0 ≤ M 6 i := fun i hi => leI.mpr (by rw [i0]; exact (h.1.1.2.2.2.2.2.2.1 i hi).2.2.2.2.2.2.2.2.2.1)
  refine lv_aload_n hx hb dL_law_532 rfl (lv_at hl 1 rfl) ?_
  refine arg_ld hx hb hl 0 4 rfl rfl 1 hi hL hSc hbl hbA hS (by decide) rfl dL_law_533 dL_law_534 dL_law_536 rfl dL_law_537 dL_law_538 ?_
  refine lv_aload_n hx hb dL_law_539 rfl (lv_at hl 3 rfl) ?_
  by_cases hk : bncK C (xs (i + 1)) = 0
  · obtain ⟨rc, hrc, e1, k5, k4⟩ := bncK_0i h.1 hk
    have hb1 := sim_bnc h hrc k5 k4
    have h1 := hb1.2
    have h' := rl_t (tt' := tt + 1) h1 (Nat.le_succ _)
    rw [e1]
    refine zcSL (wf := fun (_ : Unit) => wLM a g cI cZ cL (bncL rc n 0 0 B C).2.1 (mkB (bncL rc n 0 0 B C).2.2 rc) E td (vp_updL oo 0 (nI (bncL rc n 0 0 B C).1).toInt64) M) ksLL ⟨hx, hb, hml, hown, hts⟩ (zwLL hP hD hS hA) hK3 hX hZ (c_L_bounce_0 l D cI cZ cL a H.size B C E td n q rc oo hB hn hC hq hrc k5 k4 h.1.2.2.2.2.1) (vx_cwSW 3 hts gL_law_L_bounce rfl rfl rfl (by decide +kernel) ⟨Nat.le_of_ble_eq_true rfl, Nat.le_of_ble_eq_true rfl⟩) (by decide) (fun _ => rfl) rfl hl.1 rfl (Nat.le_of_ble_eq_true rfl) dL_law_540 ⟨by show cells + 0 ≤ 1086; omega, by show slots + 0 ≤ 14466; omega⟩ (fun r u H locs hw hP hD hS => ?_)
    have hw : r = 0 := hw
    subst hw
    refine lv_istore (lv' := [(5, .int (0)), (0, .ref b), (1, .ref (a 0)), (2, .ref (g 0)), (3, .ref (a 26)), (4, .int (nI i))]) hx hb dL_law_543 hl (by decide) rfl (fun ls hl => ?_)
    refine lv_aload_n hx hb dL_law_545 rfl (lv_at hl 3 rfl) ?_
    refine arg_ld hx hb hl 1 5 rfl rfl 1 hi hL hSc hbl hbA hS (by decide) rfl dL_law_546 dL_law_547 dL_law_549 rfl dL_law_550 dL_law_551 ?_
    rw [e1]
    refine zcVi (ci := 4) (q0 := 0) (wf := fun (u : Nat → Nat → Int32) => wLM a g cI cZ cL (bncL rc n 0 0 B C).2.1 (mkB (bncL rc n 0 0 B C).2.2 rc) E td (vp_updL oo 0 (nI (bncL rc n 0 0 B C).1).toInt64) u) ksMM ⟨hx, hb, hml, hown, hts⟩ (zwMM hP hD hS hA) hK (c_X4_bounce_0 l D cI cZ g H.size M n q rc hM hn hMq hq hrc (by rw [← (rr_at h.1.2.2.1 hrc).2.2.2.2]; exact k5) (by rw [← (rr_at h.1.2.2.1 hrc).2.2.2.1]; exact k4)) (cwV 1 hts gL_law_X4_bounce rfl rfl rfl (by decide +kernel) ⟨Nat.le_of_ble_eq_true rfl, Nat.le_of_ble_eq_true rfl⟩) rfl rfl (by decide) (fun _ => rfl) rfl hl.1 rfl (Nat.le_of_ble_eq_true rfl) dL_law_552 ⟨by show cells + 0 + 0 ≤ 1086; omega, by show slots + 0 + 0 ≤ 14466; omega⟩ (fun r u H locs hw hP hD hS => ?_)
    obtain ⟨rfl, rfl⟩ := hw
    refine lv_istore (lv' := [(6, .int ((nI (mbL rc n 0 0 (pt M 0 0 0)).1))), (5, .int (0)), (0, .ref b), (1, .ref (a 0)), (2, .ref (g 0)), (3, .ref (a 26)), (4, .int (nI i))]) hx hb dL_law_555 hl (by decide) rfl (fun ls hl => ?_)
    refine lw_tail (tgt := 1547) hx hb hml hown hts hK3 hA hP hD hS ⟨by decide, by decide⟩ ⟨by show cells + 0 + 0 ≤ 1086; omega, by show slots + 0 + 0 ≤ 14466; omega⟩ hl mbo_0 (fun _ => congrArg Int32.toInt64 (by rw [hb1.1])) dL_law_557 dL_law_558 dL_law_561 dL_law_563 dL_law_568 dL_law_570 dL_law_573 dL_law_574 dL_law_575 dL_law_576 dL_law_578 dL_law_579 dL_law_580 dL_law_585 (by decide) (fun H locs hP hD hS => ?_)
    exact W.widen (by omega) (by omega) (kk _ _ _ _ _ _ _ _ _ _ _ ⟨h', hP, hD, hS, lv_sub hl [2, 3, 4, 5, 6] rfl⟩)
  · have hK5 : ¬ nI (bncK C (xs (i + 1))) = 0 := nI_ne0 (by omega) (by rcases (bncK_c : (bncK C (xs (i + 1))) = 0 ∨ (bncK C (xs (i + 1))) = 1 ∨ (bncK C (xs (i + 1))) = 2) with z | z | z <;> omega)
    refine zcSL (wf := fun (_ : Unit) => wLM a g cI cZ cL B C E td oo M) ksLL ⟨hx, hb, hml, hown, hts⟩ (zwLL hP hD hS hA) hK3 hX hZ (c_L_bounce_k l hfl D cI cZ cL a H.size B C E td q (xs (i + 1)) oo hC hq hk) (vx_cwSW 3 hts gL_law_L_bounce rfl rfl rfl (by decide +kernel) ⟨Nat.le_of_ble_eq_true rfl, Nat.le_of_ble_eq_true rfl⟩) (by decide) (fun _ => rfl) rfl hl.1 rfl (Nat.le_of_ble_eq_true rfl) dL_law_540 ⟨hcs.1, hcs.2⟩ (fun r u H locs hw hP hD hS => ?_)
    have hw : r = nI (bncK C (xs (i + 1))) := hw
    subst hw
    refine lv_istore (lv' := [(5, .int (nI (bncK C (xs (i + 1))))), (0, .ref b), (1, .ref (a 0)), (2, .ref (g 0)), (3, .ref (a 26)), (4, .int (nI i))]) hx hb dL_law_543 hl (by decide) rfl (fun ls hl => ?_)
    refine lv_aload_n hx hb dL_law_545 rfl (lv_at hl 3 rfl) ?_
    refine arg_ld hx hb hl 1 5 rfl rfl 1 hi hL hSc hbl hbA hS (by decide) rfl dL_law_546 dL_law_547 dL_law_549 rfl dL_law_550 dL_law_551 ?_
    refine zcVi (ci := 4) (q0 := 0) (wf := fun (u : Nat → Nat → Int32) => wLM a g cI cZ cL B C E td oo u) ksMM ⟨hx, hb, hml, hown, hts⟩ (zwMM hP hD hS hA) hK (c_X4_bounce_k l D cI cZ g H.size M q (xs (i + 1)) hMq hq (by rw [rk_bnc h.1]; exact hk)) (cwV 1 hts gL_law_X4_bounce rfl rfl rfl (by decide +kernel) ⟨Nat.le_of_ble_eq_true rfl, Nat.le_of_ble_eq_true rfl⟩) rfl rfl (by decide) (fun _ => rfl) rfl hl.1 rfl (Nat.le_of_ble_eq_true rfl) dL_law_552 ⟨by show cells + 1 + 0 ≤ 1086; omega, by show slots + 6 + 0 ≤ 14466; omega⟩ (fun r u H locs hw hP hD hS => ?_)
    obtain ⟨rfl, rfl⟩ := hw
    refine lv_istore (lv' := [(6, .int (0)), (5, .int (nI (bncK C (xs (i + 1))))), (0, .ref b), (1, .ref (a 0)), (2, .ref (g 0)), (3, .ref (a 26)), (4, .int (nI i))]) hx hb dL_law_555 hl (by decide) rfl (fun ls hl => ?_)
    refine lw_tail (tgt := 1547) hx hb hml hown hts hK3 hA hP hD hS ⟨by decide, by decide⟩ ⟨by show cells + 1 + 0 ≤ 1086; omega, by show slots + 6 + 0 ≤ 14466; omega⟩ hl (by rw [pt_s, rk_bnc h.1]) (fun z => absurd z hK5) dL_law_557 dL_law_558 dL_law_561 dL_law_563 dL_law_568 dL_law_570 dL_law_573 dL_law_574 dL_law_575 dL_law_576 dL_law_578 dL_law_579 dL_law_580 dL_law_585 (by decide) (fun H locs hP hD hS => ?_)
    exact W.widen (by omega) (by omega) (kk _ _ _ _ _ _ _ _ _ _ _ ⟨(rl_t (rl_0 h) (Nat.le_succ _)), hP, hD, hS, lv_sub hl [2, 3, 4, 5, 6] rfl⟩)
set_option maxHeartbeats 4000000 in
set_option maxRecDepth 100000 in
theorem lc_apply (F : LwF p l R s m args c D A cI cZ cL b L xs) (S : LwS s D A a g cI cZ cL b i tt n q B C E td oo M H locs ls) (hi : i + 6 ≤ L) (ht : tt ≤ 1000) (hcs : cells + 1 ≤ 1086 ∧ slots + 6 ≤ 14466)
    (kk : LwK p l e R s m args below meth c Q D A a g cI cZ cL b i tt cells slots) : W p l e R s m args below meth c H locs cells slots Q (F0 m 420 ls []) := by
  obtain ⟨hx, hb, hml, hown, hts, hK3, hA, hSc, hbl, hbA, hX, hZ, hfl, hL, rfl⟩ := F
  obtain ⟨h, hP, hD, hS, hl⟩ := S
  have hK : va_K D vwCl (tyl cI cZ) s := hK3.sub (tys' := tyl cI cZ) [0, 1] rfl
  have hB : B 11 0 = nI n := h.1.1.1
  have hM : M 2 0 = nI n := h.1.1.2.1
  have hn : n ≤ 40 := h.1.1.2.2.1
  have hC : C 8 0 = nI q := h.1.2.2.1.1
  have hMq : M 15 0 = nI q := h.1.2.2.1.2.1
  have hq : q ≤ 30 := h.1.2.2.1.2.2.1
  have hso : ∀ i j, i ≤ j → j < n → M 6 i ≤ M 6 j := h.1.1.2.2.2.2.2.2.2.1
  have hs0 : ∀ i, i < n → 0 ≤ M 6 i := fun i hi => leI.mpr (by rw [i0]; exact (h.1.1.2.2.2.2.2.2.1 i hi).2.2.2.2.2.2.2.2.2.1)
  refine lv_aload_n hx hb dL_law_420 rfl (lv_at hl 1 rfl) ?_
  refine arg_ld hx hb hl 0 4 rfl rfl 1 hi hL hSc hbl hbA hS (by decide) rfl dL_law_421 dL_law_422 dL_law_424 rfl dL_law_425 dL_law_426 ?_
  refine lv_aload_n hx hb dL_law_427 rfl (lv_at hl 3 rfl) ?_
  by_cases hk : aplK C (xs (i + 1)) = 0
  · obtain ⟨rc, hrc, e1, k5, k0⟩ := aplK_0i h.1 hk
    have h1 := sim_apl (E := E) (rl_0 (x := 0) h) hrc k5
    have h' := rl_t (tt' := tt + 1) h1 (Nat.le_succ _)
    rw [e1]
    refine zcSL (wf := fun (_ : Unit) => wLM a g cI cZ cL (othS B C E rc n td).1 (othS B C E rc n td).2.1 (othS B C E rc n td).2.2 td (vp_updL oo 0 ((othS B C E rc n td).2.1 3 rc).toInt64) M) ksLL ⟨hx, hb, hml, hown, hts⟩ (zwLL hP hD hS hA) hK3 hX hZ (c_L_apply_0 l D cI cZ cL a H.size B C E td n q rc oo hB hn hC hq hrc k5 k0) (vx_cwSW 3 hts gL_law_L_apply rfl rfl rfl (by decide +kernel) ⟨Nat.le_of_ble_eq_true rfl, Nat.le_of_ble_eq_true rfl⟩) (by decide) (fun _ => rfl) rfl hl.1 rfl (Nat.le_of_ble_eq_true rfl) dL_law_428 ⟨by show cells + 0 ≤ 1086; omega, by show slots + 0 ≤ 14466; omega⟩ (fun r u H locs hw hP hD hS => ?_)
    have hw : r = 0 := hw
    subst hw
    refine lv_istore (lv' := [(5, .int (0)), (0, .ref b), (1, .ref (a 0)), (2, .ref (g 0)), (3, .ref (a 26)), (4, .int (nI i))]) hx hb dL_law_431 hl (by decide) rfl (fun ls hl => ?_)
    refine lv_aload_n hx hb dL_law_433 rfl (lv_at hl 3 rfl) ?_
    refine arg_ld hx hb hl 1 5 rfl rfl 1 hi hL hSc hbl hbA hS (by decide) rfl dL_law_434 dL_law_435 dL_law_437 rfl dL_law_438 dL_law_439 ?_
    rw [e1]
    refine zcVi (ci := 4) (q0 := 0) (wf := fun (u : Nat → Nat → Int32) => wLM a g cI cZ cL (othS B C E rc n td).1 (othS B C E rc n td).2.1 (othS B C E rc n td).2.2 td (vp_updL oo 0 ((othS B C E rc n td).2.1 3 rc).toInt64) u) ksMM ⟨hx, hb, hml, hown, hts⟩ (zwMM hP hD hS hA) hK (c_X4_apply_0 l D cI cZ g H.size M n q rc hM hn hMq hq hrc (by rw [← (rr_at h.1.2.2.1 hrc).2.2.2.2]; exact k5) (by rw [← (rr_at h.1.2.2.1 hrc).1]; exact k0) hso hs0) (cwV 1 hts gL_law_X4_apply rfl rfl rfl (by decide +kernel) ⟨Nat.le_of_ble_eq_true rfl, Nat.le_of_ble_eq_true rfl⟩) rfl rfl (by decide) (fun _ => rfl) rfl hl.1 rfl (Nat.le_of_ble_eq_true rfl) dL_law_440 ⟨by show cells + 0 + 0 ≤ 1086; omega, by show slots + 0 + 0 ≤ 14466; omega⟩ (fun r u H locs hw hP hD hS => ?_)
    obtain ⟨rfl, rfl⟩ := hw
    refine lv_istore (lv' := [(6, .int ((moth (pt M 0 0 0) rc n 18 rc))), (5, .int (0)), (0, .ref b), (1, .ref (a 0)), (2, .ref (g 0)), (3, .ref (a 26)), (4, .int (nI i))]) hx hb dL_law_443 hl (by decide) rfl (fun ls hl => ?_)
    refine lw_tail (tgt := 1547) hx hb hml hown hts hK3 hA hP hD hS ⟨by decide, by decide⟩ ⟨by show cells + 0 + 0 ≤ 1086; omega, by show slots + 0 + 0 ≤ 14466; omega⟩ hl (moth_0.trans pt_s) (fun _ => congrArg Int32.toInt64 (rr_at h1.1.2.2.1 hrc).2.2.1) dL_law_445 dL_law_446 dL_law_449 dL_law_451 dL_law_456 dL_law_458 dL_law_461 dL_law_462 dL_law_463 dL_law_464 dL_law_466 dL_law_467 dL_law_468 dL_law_473 (by decide) (fun H locs hP hD hS => ?_)
    exact W.widen (by omega) (by omega) (kk _ _ _ _ _ _ _ _ _ _ _ ⟨h', hP, hD, hS, lv_sub hl [2, 3, 4, 5, 6] rfl⟩)
  · have hK5 : ¬ nI (aplK C (xs (i + 1))) = 0 := nI_ne0 (by omega) (by rcases (aplK_c : (aplK C (xs (i + 1))) = 0 ∨ (aplK C (xs (i + 1))) = 1 ∨ (aplK C (xs (i + 1))) = 2) with z | z | z <;> omega)
    refine zcSL (wf := fun (_ : Unit) => wLM a g cI cZ cL B C E td oo M) ksLL ⟨hx, hb, hml, hown, hts⟩ (zwLL hP hD hS hA) hK3 hX hZ (c_L_apply_k l hfl D cI cZ cL a H.size B C E td q (xs (i + 1)) oo hC hq hk) (vx_cwSW 3 hts gL_law_L_apply rfl rfl rfl (by decide +kernel) ⟨Nat.le_of_ble_eq_true rfl, Nat.le_of_ble_eq_true rfl⟩) (by decide) (fun _ => rfl) rfl hl.1 rfl (Nat.le_of_ble_eq_true rfl) dL_law_428 ⟨hcs.1, hcs.2⟩ (fun r u H locs hw hP hD hS => ?_)
    have hw : r = nI (aplK C (xs (i + 1))) := hw
    subst hw
    refine lv_istore (lv' := [(5, .int (nI (aplK C (xs (i + 1))))), (0, .ref b), (1, .ref (a 0)), (2, .ref (g 0)), (3, .ref (a 26)), (4, .int (nI i))]) hx hb dL_law_431 hl (by decide) rfl (fun ls hl => ?_)
    refine lv_aload_n hx hb dL_law_433 rfl (lv_at hl 3 rfl) ?_
    refine arg_ld hx hb hl 1 5 rfl rfl 1 hi hL hSc hbl hbA hS (by decide) rfl dL_law_434 dL_law_435 dL_law_437 rfl dL_law_438 dL_law_439 ?_
    refine zcVi (ci := 4) (q0 := 0) (wf := fun (u : Nat → Nat → Int32) => wLM a g cI cZ cL B C E td oo u) ksMM ⟨hx, hb, hml, hown, hts⟩ (zwMM hP hD hS hA) hK (c_X4_apply_k l D cI cZ g H.size M q (xs (i + 1)) hMq hq (by rw [rk_apl h.1]; exact hk)) (cwV 1 hts gL_law_X4_apply rfl rfl rfl (by decide +kernel) ⟨Nat.le_of_ble_eq_true rfl, Nat.le_of_ble_eq_true rfl⟩) rfl rfl (by decide) (fun _ => rfl) rfl hl.1 rfl (Nat.le_of_ble_eq_true rfl) dL_law_440 ⟨by show cells + 1 + 0 ≤ 1086; omega, by show slots + 6 + 0 ≤ 14466; omega⟩ (fun r u H locs hw hP hD hS => ?_)
    obtain ⟨rfl, rfl⟩ := hw
    refine lv_istore (lv' := [(6, .int (0)), (5, .int (nI (aplK C (xs (i + 1))))), (0, .ref b), (1, .ref (a 0)), (2, .ref (g 0)), (3, .ref (a 26)), (4, .int (nI i))]) hx hb dL_law_443 hl (by decide) rfl (fun ls hl => ?_)
    refine lw_tail (tgt := 1547) hx hb hml hown hts hK3 hA hP hD hS ⟨by decide, by decide⟩ ⟨by show cells + 1 + 0 ≤ 1086; omega, by show slots + 6 + 0 ≤ 14466; omega⟩ hl (by rw [pt_s, rk_apl h.1]) (fun z => absurd z hK5) dL_law_445 dL_law_446 dL_law_449 dL_law_451 dL_law_456 dL_law_458 dL_law_461 dL_law_462 dL_law_463 dL_law_464 dL_law_466 dL_law_467 dL_law_468 dL_law_473 (by decide) (fun H locs hP hD hS => ?_)
    exact W.widen (by omega) (by omega) (kk _ _ _ _ _ _ _ _ _ _ _ ⟨(rl_t (rl_0 h) (Nat.le_succ _)), hP, hD, hS, lv_sub hl [2, 3, 4, 5, 6] rfl⟩)
set_option maxHeartbeats 4000000 in
set_option maxRecDepth 100000 in
theorem lc_assign (F : LwF p l R s m args c D A cI cZ cL b L xs) (S : LwS s D A a g cI cZ cL b i tt n q B C E td oo M H locs ls) (hi : i + 6 ≤ L) (ht : tt ≤ 1000) (hcs : cells + 1 ≤ 1086 ∧ slots + 6 ≤ 14466)
    (kk : LwK p l e R s m args below meth c Q D A a g cI cZ cL b i tt cells slots) : W p l e R s m args below meth c H locs cells slots Q (F0 m 352 ls []) := by
  obtain ⟨hx, hb, hml, hown, hts, hK3, hA, hSc, hbl, hbA, hX, hZ, hfl, hL, rfl⟩ := F
  obtain ⟨h, hP, hD, hS, hl⟩ := S
  have hK : va_K D vwCl (tyl cI cZ) s := hK3.sub (tys' := tyl cI cZ) [0, 1] rfl
  have hB : B 11 0 = nI n := h.1.1.1
  have hM : M 2 0 = nI n := h.1.1.2.1
  have hn : n ≤ 40 := h.1.1.2.2.1
  have hC : C 8 0 = nI q := h.1.2.2.1.1
  have hMq : M 15 0 = nI q := h.1.2.2.1.2.1
  have hq : q ≤ 30 := h.1.2.2.1.2.2.1
  have hso : ∀ i j, i ≤ j → j < n → M 6 i ≤ M 6 j := h.1.1.2.2.2.2.2.2.2.1
  have hs0 : ∀ i, i < n → 0 ≤ M 6 i := fun i hi => leI.mpr (by rw [i0]; exact (h.1.1.2.2.2.2.2.2.1 i hi).2.2.2.2.2.2.2.2.2.1)
  refine lv_aload_n hx hb dL_law_352 rfl (lv_at hl 1 rfl) ?_
  refine arg_ld hx hb hl 0 4 rfl rfl 1 hi hL hSc hbl hbA hS (by decide) rfl dL_law_353 dL_law_354 dL_law_356 rfl dL_law_357 dL_law_358 ?_
  refine arg_ld hx hb hl 0 4 rfl rfl 2 hi hL hSc hbl hbA hS (by decide) rfl dL_law_359 dL_law_360 dL_law_362 rfl dL_law_363 dL_law_364 ?_
  refine lv_aload_n hx hb dL_law_365 rfl (lv_at hl 3 rfl) ?_
  by_cases hk : asgK C (xs (i + 1)) (xs (i + 2)) = 0
  · obtain ⟨rc, hrc, e1, k5, k0, k1, k2⟩ := asgK_0i h.1 hk
    have h1 := sim_asg (cu := (xs (i + 2))) (E := E) (rl_0 (x := 0) h) hrc k5
    have h' := rl_t (tt' := tt + 1) h1 (Nat.le_succ _)
    rw [e1]
    refine zcSL (wf := fun (_ : Unit) => wLM a g cI cZ cL (othS B (pt C 0 rc (xs (i + 2))) E rc n td).1 (othS B (pt C 0 rc (xs (i + 2))) E rc n td).2.1 (othS B (pt C 0 rc (xs (i + 2))) E rc n td).2.2 td (vp_updL oo 0 ((othS B (pt C 0 rc (xs (i + 2))) E rc n td).2.1 3 rc).toInt64) M) ksLL ⟨hx, hb, hml, hown, hts⟩ (zwLL hP hD hS hA) hK3 hX hZ (c_L_assign_0 l D cI cZ cL a H.size B C E td n q rc (xs (i + 2)) oo hB hn hC hq hrc k1 k2 k5 k0) (vx_cwSW 4 hts gL_law_L_assign rfl rfl rfl (by decide +kernel) ⟨Nat.le_of_ble_eq_true rfl, Nat.le_of_ble_eq_true rfl⟩) (by decide) (fun _ => rfl) rfl hl.1 rfl (Nat.le_of_ble_eq_true rfl) dL_law_366 ⟨by show cells + 0 ≤ 1086; omega, by show slots + 0 ≤ 14466; omega⟩ (fun r u H locs hw hP hD hS => ?_)
    have hw : r = 0 := hw
    subst hw
    refine lv_istore (lv' := [(5, .int (0)), (0, .ref b), (1, .ref (a 0)), (2, .ref (g 0)), (3, .ref (a 26)), (4, .int (nI i))]) hx hb dL_law_369 hl (by decide) rfl (fun ls hl => ?_)
    refine lv_aload_n hx hb dL_law_371 rfl (lv_at hl 3 rfl) ?_
    refine arg_ld hx hb hl 1 5 rfl rfl 1 hi hL hSc hbl hbA hS (by decide) rfl dL_law_372 dL_law_373 dL_law_375 rfl dL_law_376 dL_law_377 ?_
    refine arg_ld hx hb hl 1 5 rfl rfl 2 hi hL hSc hbl hbA hS (by decide) rfl dL_law_378 dL_law_379 dL_law_381 rfl dL_law_382 dL_law_383 ?_
    rw [e1]
    refine zcVi (ci := 4) (q0 := 0) (wf := fun (u : Nat → Nat → Int32) => wLM a g cI cZ cL (othS B (pt C 0 rc (xs (i + 2))) E rc n td).1 (othS B (pt C 0 rc (xs (i + 2))) E rc n td).2.1 (othS B (pt C 0 rc (xs (i + 2))) E rc n td).2.2 td (vp_updL oo 0 ((othS B (pt C 0 rc (xs (i + 2))) E rc n td).2.1 3 rc).toInt64) u) ksMM ⟨hx, hb, hml, hown, hts⟩ (zwMM hP hD hS hA) hK (c_X4_assign_0 l D cI cZ g H.size M n q rc (xs (i + 2)) hM hn hMq hq hrc k1 k2 (by rw [← (rr_at h.1.2.2.1 hrc).2.2.2.2]; exact k5) (by rw [← (rr_at h.1.2.2.1 hrc).1]; exact k0) hso hs0) (cwV 2 hts gL_law_X4_assign rfl rfl rfl (by decide +kernel) ⟨Nat.le_of_ble_eq_true rfl, Nat.le_of_ble_eq_true rfl⟩) rfl rfl (by decide) (fun _ => rfl) rfl hl.1 rfl (Nat.le_of_ble_eq_true rfl) dL_law_384 ⟨by show cells + 0 + 0 ≤ 1086; omega, by show slots + 0 + 0 ≤ 14466; omega⟩ (fun r u H locs hw hP hD hS => ?_)
    obtain ⟨rfl, rfl⟩ := hw
    refine lv_istore (lv' := [(6, .int ((moth (pt (pt M 0 0 0) 17 rc (xs (i + 2))) rc n 18 rc))), (5, .int (0)), (0, .ref b), (1, .ref (a 0)), (2, .ref (g 0)), (3, .ref (a 26)), (4, .int (nI i))]) hx hb dL_law_387 hl (by decide) rfl (fun ls hl => ?_)
    refine lw_tail (tgt := 1547) hx hb hml hown hts hK3 hA hP hD hS ⟨by decide, by decide⟩ ⟨by show cells + 0 + 0 ≤ 1086; omega, by show slots + 0 + 0 ≤ 14466; omega⟩ hl (by rw [moth_0]; simp [pt_at]) (fun _ => congrArg Int32.toInt64 (rr_at h1.1.2.2.1 hrc).2.2.1) dL_law_389 dL_law_390 dL_law_393 dL_law_395 dL_law_400 dL_law_402 dL_law_405 dL_law_406 dL_law_407 dL_law_408 dL_law_410 dL_law_411 dL_law_412 dL_law_417 (by decide) (fun H locs hP hD hS => ?_)
    exact W.widen (by omega) (by omega) (kk _ _ _ _ _ _ _ _ _ _ _ ⟨h', hP, hD, hS, lv_sub hl [2, 3, 4, 5, 6] rfl⟩)
  · have hK5 : ¬ nI (asgK C (xs (i + 1)) (xs (i + 2))) = 0 := nI_ne0 (by omega) (by rcases (asgK_c : (asgK C (xs (i + 1)) (xs (i + 2))) = 0 ∨ (asgK C (xs (i + 1)) (xs (i + 2))) = 1 ∨ (asgK C (xs (i + 1)) (xs (i + 2))) = 2) with z | z | z <;> omega)
    refine zcSL (wf := fun (_ : Unit) => wLM a g cI cZ cL B C E td oo M) ksLL ⟨hx, hb, hml, hown, hts⟩ (zwLL hP hD hS hA) hK3 hX hZ (c_L_assign_k l hfl D cI cZ cL a H.size B C E td q (xs (i + 1)) (xs (i + 2)) oo hC hq hk) (vx_cwSW 4 hts gL_law_L_assign rfl rfl rfl (by decide +kernel) ⟨Nat.le_of_ble_eq_true rfl, Nat.le_of_ble_eq_true rfl⟩) (by decide) (fun _ => rfl) rfl hl.1 rfl (Nat.le_of_ble_eq_true rfl) dL_law_366 ⟨hcs.1, hcs.2⟩ (fun r u H locs hw hP hD hS => ?_)
    have hw : r = nI (asgK C (xs (i + 1)) (xs (i + 2))) := hw
    subst hw
    refine lv_istore (lv' := [(5, .int (nI (asgK C (xs (i + 1)) (xs (i + 2))))), (0, .ref b), (1, .ref (a 0)), (2, .ref (g 0)), (3, .ref (a 26)), (4, .int (nI i))]) hx hb dL_law_369 hl (by decide) rfl (fun ls hl => ?_)
    refine lv_aload_n hx hb dL_law_371 rfl (lv_at hl 3 rfl) ?_
    refine arg_ld hx hb hl 1 5 rfl rfl 1 hi hL hSc hbl hbA hS (by decide) rfl dL_law_372 dL_law_373 dL_law_375 rfl dL_law_376 dL_law_377 ?_
    refine arg_ld hx hb hl 1 5 rfl rfl 2 hi hL hSc hbl hbA hS (by decide) rfl dL_law_378 dL_law_379 dL_law_381 rfl dL_law_382 dL_law_383 ?_
    refine zcVi (ci := 4) (q0 := 0) (wf := fun (u : Nat → Nat → Int32) => wLM a g cI cZ cL B C E td oo u) ksMM ⟨hx, hb, hml, hown, hts⟩ (zwMM hP hD hS hA) hK (c_X4_assign_k l D cI cZ g H.size M q (xs (i + 1)) (xs (i + 2)) hMq hq (by rw [rk_asg h.1]; exact hk)) (cwV 2 hts gL_law_X4_assign rfl rfl rfl (by decide +kernel) ⟨Nat.le_of_ble_eq_true rfl, Nat.le_of_ble_eq_true rfl⟩) rfl rfl (by decide) (fun _ => rfl) rfl hl.1 rfl (Nat.le_of_ble_eq_true rfl) dL_law_384 ⟨by show cells + 1 + 0 ≤ 1086; omega, by show slots + 6 + 0 ≤ 14466; omega⟩ (fun r u H locs hw hP hD hS => ?_)
    obtain ⟨rfl, rfl⟩ := hw
    refine lv_istore (lv' := [(6, .int (0)), (5, .int (nI (asgK C (xs (i + 1)) (xs (i + 2))))), (0, .ref b), (1, .ref (a 0)), (2, .ref (g 0)), (3, .ref (a 26)), (4, .int (nI i))]) hx hb dL_law_387 hl (by decide) rfl (fun ls hl => ?_)
    refine lw_tail (tgt := 1547) hx hb hml hown hts hK3 hA hP hD hS ⟨by decide, by decide⟩ ⟨by show cells + 1 + 0 ≤ 1086; omega, by show slots + 6 + 0 ≤ 14466; omega⟩ hl (by rw [pt_s, rk_asg h.1]) (fun z => absurd z hK5) dL_law_389 dL_law_390 dL_law_393 dL_law_395 dL_law_400 dL_law_402 dL_law_405 dL_law_406 dL_law_407 dL_law_408 dL_law_410 dL_law_411 dL_law_412 dL_law_417 (by decide) (fun H locs hP hD hS => ?_)
    exact W.widen (by omega) (by omega) (kk _ _ _ _ _ _ _ _ _ _ _ ⟨(rl_t (rl_0 h) (Nat.le_succ _)), hP, hD, hS, lv_sub hl [2, 3, 4, 5, 6] rfl⟩)
set_option maxHeartbeats 4000000 in
set_option maxRecDepth 100000 in
theorem lc_appliedTo (F : LwF p l R s m args c D A cI cZ cL b L xs) (S : LwS s D A a g cI cZ cL b i tt n q B C E td oo M H locs ls) (hi : i + 6 ≤ L) (ht : tt ≤ 1000) (hcs : cells + 1 ≤ 1086 ∧ slots + 6 ≤ 14466)
    (kk : LwK p l e R s m args below meth c Q D A a g cI cZ cL b i tt cells slots) : W p l e R s m args below meth c H locs cells slots Q (F0 m 1282 ls []) := by
  obtain ⟨hx, hb, hml, hown, hts, hK3, hA, hSc, hbl, hbA, hX, hZ, hfl, hL, rfl⟩ := F
  obtain ⟨h, hP, hD, hS, hl⟩ := S
  have hK : va_K D vwCl (tyl cI cZ) s := hK3.sub (tys' := tyl cI cZ) [0, 1] rfl
  have hB : B 11 0 = nI n := h.1.1.1
  have hM : M 2 0 = nI n := h.1.1.2.1
  have hn : n ≤ 40 := h.1.1.2.2.1
  have hC : C 8 0 = nI q := h.1.2.2.1.1
  have hMq : M 15 0 = nI q := h.1.2.2.1.2.1
  have hq : q ≤ 30 := h.1.2.2.1.2.2.1
  have hso : ∀ i j, i ≤ j → j < n → M 6 i ≤ M 6 j := h.1.1.2.2.2.2.2.2.2.1
  have hs0 : ∀ i, i < n → 0 ≤ M 6 i := fun i hi => leI.mpr (by rw [i0]; exact (h.1.1.2.2.2.2.2.2.1 i hi).2.2.2.2.2.2.2.2.2.1)
  refine lv_aload_n hx hb dL_law_1282 rfl (lv_at hl 1 rfl) ?_
  refine arg_ld hx hb hl 0 4 rfl rfl 1 hi hL hSc hbl hbA hS (by decide) rfl dL_law_1283 dL_law_1284 dL_law_1286 rfl dL_law_1287 dL_law_1288 ?_
  refine arg_ld hx hb hl 0 4 rfl rfl 2 hi hL hSc hbl hbA hS (by decide) rfl dL_law_1289 dL_law_1290 dL_law_1292 rfl dL_law_1293 dL_law_1294 ?_
  refine lv_aload_n hx hb dL_law_1295 rfl (lv_at hl 3 rfl) ?_
  by_cases hk : ¬ (((xs (i + 1)) < 0 ∨ ¬ (xs (i + 1)) < C 8 0) ∨ ((xs (i + 2)) < 0 ∨ ¬ (xs (i + 2)) < B 11 0))
  · obtain ⟨rc, hrc, e1, -⟩ := rk_ix h.1 (fun z => hk (Or.inl z))
    obtain ⟨bb, hbb, e2⟩ := bix h.1 (fun z => hk (Or.inr z))
    have h1 := rl_0 (x := 0) h
    have h' := rl_t (tt' := tt + 1) h1 (Nat.le_succ _)
    rw [e1, e2]
    refine zcSL (wf := fun (_ : Unit) => wLM a g cI cZ cL B C E td (vp_updL oo 0 (C 6 (40 * rc + bb)).toInt64) M) ksLL ⟨hx, hb, hml, hown, hts⟩ (zwLL hP hD hS hA) hK3 hX hZ (c_L_appliedTo_0 l D cI cZ cL a H.size B C E td n q rc bb oo hB hn hC hq hrc hbb) (vx_cwSW 4 hts gL_law_L_appliedTo rfl rfl rfl (by decide +kernel) ⟨Nat.le_of_ble_eq_true rfl, Nat.le_of_ble_eq_true rfl⟩) (by decide) (fun _ => rfl) rfl hl.1 rfl (Nat.le_of_ble_eq_true rfl) dL_law_1296 ⟨by show cells + 0 ≤ 1086; omega, by show slots + 0 ≤ 14466; omega⟩ (fun r u H locs hw hP hD hS => ?_)
    have hw : r = 0 := hw
    subst hw
    refine lv_istore (lv' := [(5, .int (0)), (0, .ref b), (1, .ref (a 0)), (2, .ref (g 0)), (3, .ref (a 26)), (4, .int (nI i))]) hx hb dL_law_1299 hl (by decide) rfl (fun ls hl => ?_)
    refine lv_aload_n hx hb dL_law_1301 rfl (lv_at hl 3 rfl) ?_
    refine arg_ld hx hb hl 1 5 rfl rfl 1 hi hL hSc hbl hbA hS (by decide) rfl dL_law_1302 dL_law_1303 dL_law_1305 rfl dL_law_1306 dL_law_1307 ?_
    refine arg_ld hx hb hl 1 5 rfl rfl 2 hi hL hSc hbl hbA hS (by decide) rfl dL_law_1308 dL_law_1309 dL_law_1311 rfl dL_law_1312 dL_law_1313 ?_
    rw [e1, e2]
    refine zcVi (ci := 4) (q0 := 0) (wf := fun (u : Nat → Nat → Int32) => wLM a g cI cZ cL B C E td (vp_updL oo 0 (C 6 (40 * rc + bb)).toInt64) u) ksMM ⟨hx, hb, hml, hown, hts⟩ (zwMM hP hD hS hA) hK (c_X4_appliedTo_0 l D cI cZ g H.size M n q rc bb hM hn hMq hq hrc hbb) (cwV 2 hts gL_law_X4_appliedTo rfl rfl rfl (by decide +kernel) ⟨Nat.le_of_ble_eq_true rfl, Nat.le_of_ble_eq_true rfl⟩) rfl rfl (by decide) (fun _ => rfl) rfl hl.1 rfl (Nat.le_of_ble_eq_true rfl) dL_law_1314 ⟨by show cells + 0 + 0 ≤ 1086; omega, by show slots + 0 + 0 ≤ 14466; omega⟩ (fun r u H locs hw hP hD hS => ?_)
    obtain ⟨rfl, rfl⟩ := hw
    refine lv_istore (lv' := [(6, .int ((M 21 (40 * rc + bb)))), (5, .int (0)), (0, .ref b), (1, .ref (a 0)), (2, .ref (g 0)), (3, .ref (a 26)), (4, .int (nI i))]) hx hb dL_law_1317 hl (by decide) rfl (fun ls hl => ?_)
    refine lw_tail (tgt := 1547) hx hb hml hown hts hK3 hA hP hD hS ⟨by decide, by decide⟩ ⟨by show cells + 0 + 0 ≤ 1086; omega, by show slots + 0 + 0 ≤ 14466; omega⟩ hl pt_s (fun _ => congrArg Int32.toInt64 (rd_pl h.1 hrc hbb)) dL_law_1319 dL_law_1320 dL_law_1323 dL_law_1325 dL_law_1330 dL_law_1332 dL_law_1335 dL_law_1336 dL_law_1337 dL_law_1338 dL_law_1340 dL_law_1341 dL_law_1342 dL_law_1347 (by decide) (fun H locs hP hD hS => ?_)
    exact W.widen (by omega) (by omega) (kk _ _ _ _ _ _ _ _ _ _ _ ⟨h', hP, hD, hS, lv_sub hl [2, 3, 4, 5, 6] rfl⟩)
  · refine zcSL (wf := fun (_ : Unit) => wLM a g cI cZ cL B C E td oo M) ksLL ⟨hx, hb, hml, hown, hts⟩ (zwLL hP hD hS hA) hK3 hX hZ (c_L_appliedTo_k l hfl D cI cZ cL a H.size B C E td (xs (i + 1)) (xs (i + 2)) oo (Classical.not_not.mp hk)) (vx_cwSW 4 hts gL_law_L_appliedTo rfl rfl rfl (by decide +kernel) ⟨Nat.le_of_ble_eq_true rfl, Nat.le_of_ble_eq_true rfl⟩) (by decide) (fun _ => rfl) rfl hl.1 rfl (Nat.le_of_ble_eq_true rfl) dL_law_1296 ⟨hcs.1, hcs.2⟩ (fun r u H locs hw hP hD hS => ?_)
    have hw : r = 1 := hw
    subst hw
    refine lv_istore (lv' := [(5, .int (1)), (0, .ref b), (1, .ref (a 0)), (2, .ref (g 0)), (3, .ref (a 26)), (4, .int (nI i))]) hx hb dL_law_1299 hl (by decide) rfl (fun ls hl => ?_)
    refine lv_aload_n hx hb dL_law_1301 rfl (lv_at hl 3 rfl) ?_
    refine arg_ld hx hb hl 1 5 rfl rfl 1 hi hL hSc hbl hbA hS (by decide) rfl dL_law_1302 dL_law_1303 dL_law_1305 rfl dL_law_1306 dL_law_1307 ?_
    refine arg_ld hx hb hl 1 5 rfl rfl 2 hi hL hSc hbl hbA hS (by decide) rfl dL_law_1308 dL_law_1309 dL_law_1311 rfl dL_law_1312 dL_law_1313 ?_
    refine zcVi (ci := 4) (q0 := 0) (wf := fun (u : Nat → Nat → Int32) => wLM a g cI cZ cL B C E td oo u) ksMM ⟨hx, hb, hml, hown, hts⟩ (zwMM hP hD hS hA) hK (c_X4_appliedTo_k l D cI cZ g H.size M n q (xs (i + 1)) (xs (i + 2)) hM hn hMq hq (fun z => hk (fun y => y.elim (fun y => y.elim z.1.1 (fun u => u (hC ▸ z.1.2))) (fun y => y.elim z.2.1 (fun u => u (hB ▸ z.2.2)))))) (cwV 2 hts gL_law_X4_appliedTo rfl rfl rfl (by decide +kernel) ⟨Nat.le_of_ble_eq_true rfl, Nat.le_of_ble_eq_true rfl⟩) rfl rfl (by decide) (fun _ => rfl) rfl hl.1 rfl (Nat.le_of_ble_eq_true rfl) dL_law_1314 ⟨by show cells + 1 + 0 ≤ 1086; omega, by show slots + 6 + 0 ≤ 14466; omega⟩ (fun r u H locs hw hP hD hS => ?_)
    obtain ⟨rfl, rfl⟩ := hw
    refine lv_istore (lv' := [(6, .int (0)), (5, .int (1)), (0, .ref b), (1, .ref (a 0)), (2, .ref (g 0)), (3, .ref (a 26)), (4, .int (nI i))]) hx hb dL_law_1317 hl (by decide) rfl (fun ls hl => ?_)
    refine lw_tail (tgt := 1547) hx hb hml hown hts hK3 hA hP hD hS ⟨by decide, by decide⟩ ⟨by show cells + 1 + 0 ≤ 1086; omega, by show slots + 6 + 0 ≤ 14466; omega⟩ hl (by simp [pt_at]) (fun z => absurd z (by decide)) dL_law_1319 dL_law_1320 dL_law_1323 dL_law_1325 dL_law_1330 dL_law_1332 dL_law_1335 dL_law_1336 dL_law_1337 dL_law_1338 dL_law_1340 dL_law_1341 dL_law_1342 dL_law_1347 (by decide) (fun H locs hP hD hS => ?_)
    exact W.widen (by omega) (by omega) (kk _ _ _ _ _ _ _ _ _ _ _ ⟨(rl_t (rl_0 h) (Nat.le_succ _)), hP, hD, hS, lv_sub hl [2, 3, 4, 5, 6] rfl⟩)
end LWB
