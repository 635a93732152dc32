section LWB
variable {p : Program} {l : Launch} {e : Env} {R : Room} {s : State} {m : MethodId} {args : Array Value} {below : List Frame} {meth : Method} {c : Code} {H : Heap} {locs : List Loc} {cells slots : Nat} {Q : State → Prop}
variable {ls : Array Slot} {D : va_G} {A : Nat → Prop} {a g : Nat → Nat} {cI cZ cL : ClassId} {B C E M : Nat → Nat → Int32} {td : Int32} {oo : Nat → Int64} {b L i tt n q : Nat} {xs : Nat → Int32}
theorem lw_tailH {r5 r6 : Int32} (hx : p.tables.exec = Jvm.exec) (hb : c.code = cL_law) (hml : c.maxLocals = 7) (hown : s.vm.findClass RL = some m.cls) (hts : ∀ w ∈ wsL_law, w.before args s = true) (hK3 : va_K D vwCl (tyl3 cI cZ cL) s) (hA : ∀ q, s.heap.size ≤ q → A q)
    (hP : va_P D vwCl (wLM a g cI cZ cL B C E td oo M) H) (hD : va_D A (wLM a g cI cZ cL B C E td oo M)) (hS : va_S A s.heap H locs) (hR : 1 ≤ R.frames ∧ 30 ≤ R.locals) (hcs : cells ≤ R.cells ∧ slots ≤ R.slots)
    (hl : lv_has ls 7 [(6, .int r6), (5, .int r5), (0, .ref b), (1, .ref (a 0)), (2, .ref (g 0)), (3, .ref (a 26)), (4, .int (nI i))]) (e5 : M 0 0 = r5) (e6 : r5 = 0 → oo 0 = r6.toInt64) (hr6 : r6 = 0 ∨ r6 = 1)
    (kk : ∀ (H1 : Heap) (locs1 : List Loc), va_P D vwCl (wLM a g cI cZ cL B C E td oo M) H1 → va_D A (wLM a g cI cZ cL B C E td oo M) → va_S A s.heap H1 locs1 → W p l e R s m args below meth c H1 locs1 cells slots Q (F0 m 1547 ls [])) : W p l e R s m args below meth c H locs cells slots Q (F0 m 1431 ls []) := by
  have hK : va_K D vwCl (tyl cI cZ) s := hK3.sub (tys' := tyl cI cZ) [0, 1] rfl
  refine lv_aload_n hx hb dL_law_1431 rfl (lv_at hl 4 rfl) ?_
  refine zcVi (ci := 4) (q0 := 0) (wf := fun (_ : Unit) => wLM a g cI cZ cL B C E td oo M) ksMM ⟨hx, hb, hml, hown, hts⟩ (zwMM hP hD hS hA) hK (c_X4_thrown l D cI cZ g H.size M) (cwV 0 hts gL_law_X4_thrown rfl rfl rfl (by decide +kernel) ⟨hR.1, Nat.le_trans (by decide) hR.2⟩) rfl rfl (by decide) (fun _ => rfl) rfl hl.1 rfl (Nat.le_of_ble_eq_true rfl) dL_law_1432 ⟨hcs.1, hcs.2⟩ (fun r u H locs hw hP hD hS => ?_)
  have hw : r = M 0 0 := hw
  rw [hw, e5]
  refine lv_iload hx hb dL_law_1435 (lv_at hl 1 rfl) ?_
  refine lv_icmp_eq (tgt := 1442) hx hb dL_law_1437 (by decide) (fun _ => ?_) (fun z => absurd rfl z)
  refine lv_iload hx hb dL_law_1442 (lv_at hl 1 rfl) ?_
  refine lv_if_ne (tgt := 1466) hx hb dL_law_1444 (by decide) (fun z => ?_) (fun z => ?_)
  · exact lv_goto (tgt := 1547) hx hb dL_law_1466 (by decide) (kk H locs hP hD hS)
  · refine lv_aload_n hx hb dL_law_1447 rfl (lv_at hl 5 rfl) ?_
    refine lv_iconst (v := 0) hx hb dL_law_1448 (by decide) ?_
    refine zlld hx hb hK3 hP 26 rfl dL_law_1449 ?_
    refine lv_iload hx hb dL_law_1450 (lv_at hl 0 rfl) ?_
    rw [e6 z]
    refine lv_if_eq (tgt := 1459) hx hb dL_law_1452 (by decide) (fun y => ?_) (fun y => ?_)
    · refine lv_lconst (v := 0) hx hb dL_law_1459 (by decide) ?_
      refine W.lcmp hx hb dL_law_1460 ?_
      refine lv_if_eq (tgt := 1466) hx hb dL_law_1461 (by decide) (fun _ => ?_) (fun z => absurd ((lg_cmp_eq _ _).mpr (by rw [y]; decide)) z)
      exact lv_goto (tgt := 1547) hx hb dL_law_1466 (by decide) (kk H locs hP hD hS)
    · refine lv_lconst (v := 1) hx hb dL_law_1455 (by decide) ?_
      refine lv_goto (tgt := 1460) hx hb dL_law_1456 (by decide) ?_
      refine W.lcmp hx hb dL_law_1460 ?_
      refine lv_if_eq (tgt := 1466) hx hb dL_law_1461 (by decide) (fun _ => ?_) (fun z => absurd ((lg_cmp_eq _ _).mpr (by rw [hr6.resolve_left y]; decide)) z)
      exact lv_goto (tgt := 1547) hx hb dL_law_1466 (by decide) (kk H locs hP hD hS)
set_option maxHeartbeats 4000000 in
set_option maxRecDepth 100000 in
theorem lc_hasBounced (F : LwF p l R s m args c D A cI cZ cL b L xs) (S : LwS s D A a g cI cZ cL b i tt n q B C E td oo M H locs ls) (hi : i + 6 ≤ L) (ht : tt ≤ 1000) (hcs : cells + 1 ≤ 1086 ∧ slots + 6 ≤ 14466)
    (kk : LwK p l e R s m args below meth c Q D A a g cI cZ cL b i tt cells slots) : W p l e R s m args below meth c H locs cells slots Q (F0 m 1406 ls []) := by
  obtain ⟨hx, hb, hml, hown, hts, hK3, hA, hSc, hbl, hbA, hX, hZ, hfl, hL, rfl⟩ := F
  obtain ⟨h, hP, hD, hS, hl⟩ := S
  have hK : va_K D vwCl (tyl cI cZ) s := hK3.sub (tys' := tyl cI cZ) [0, 1] rfl
  have hB : B 11 0 = nI n := h.1.1.1
  have hM : M 2 0 = nI n := h.1.1.2.1
  have hn : n ≤ 40 := h.1.1.2.2.1
  have hC : C 8 0 = nI q := h.1.2.2.1.1
  have hMq : M 15 0 = nI q := h.1.2.2.1.2.1
  have hq : q ≤ 30 := h.1.2.2.1.2.2.1
  have hso : ∀ i j, i ≤ j → j < n → M 6 i ≤ M 6 j := h.1.1.2.2.2.2.2.2.2.1
  have hs0 : ∀ i, i < n → 0 ≤ M 6 i := fun i hi => leI.mpr (by rw [i0]; exact (h.1.1.2.2.2.2.2.2.1 i hi).2.2.2.2.2.2.2.2.2.1)
  refine lv_aload_n hx hb dL_law_1406 rfl (lv_at hl 1 rfl) ?_
  refine arg_ld hx hb hl 0 4 rfl rfl 1 hi hL hSc hbl hbA hS (by decide) rfl dL_law_1407 dL_law_1408 dL_law_1410 rfl dL_law_1411 dL_law_1412 ?_
  refine lv_aload_n hx hb dL_law_1413 rfl (lv_at hl 3 rfl) ?_
  by_cases hk : ¬ ((xs (i + 1)) < 0 ∨ ¬ (xs (i + 1)) < C 8 0)
  · obtain ⟨rc, hrc, e1, -⟩ := rk_ix h.1 hk
    have h1 := rl_0 (x := 0) h
    have h' := rl_t (tt' := tt + 1) h1 (Nat.le_succ _)
    rw [e1]
    refine zcSL (wf := fun (_ : Unit) => wLM a g cI cZ cL B C E td (vp_updL oo 0 (b2 (¬ C 5 rc = 0)).toInt64) M) ksLL ⟨hx, hb, hml, hown, hts⟩ (zwLL hP hD hS hA) hK3 hX hZ (c_L_hasBounced_0 l D cI cZ cL a H.size B C E td q rc oo hC hq hrc (h.1.2.2.1.2.2.2 rc (by omega)).2.2.1) (vx_cwSW 3 hts gL_law_L_hasBounced rfl rfl rfl (by decide +kernel) ⟨Nat.le_of_ble_eq_true rfl, Nat.le_of_ble_eq_true rfl⟩) (by decide) (fun _ => rfl) rfl hl.1 rfl (Nat.le_of_ble_eq_true rfl) dL_law_1414 ⟨by show cells + 0 ≤ 1086; omega, by show slots + 0 ≤ 14466; omega⟩ (fun r u H locs hw hP hD hS => ?_)
    have hw : r = 0 := hw
    subst hw
    refine lv_istore (lv' := [(5, .int (0)), (0, .ref b), (1, .ref (a 0)), (2, .ref (g 0)), (3, .ref (a 26)), (4, .int (nI i))]) hx hb dL_law_1417 hl (by decide) rfl (fun ls hl => ?_)
    refine lv_aload_n hx hb dL_law_1419 rfl (lv_at hl 3 rfl) ?_
    refine arg_ld hx hb hl 1 5 rfl rfl 1 hi hL hSc hbl hbA hS (by decide) rfl dL_law_1420 dL_law_1421 dL_law_1423 rfl dL_law_1424 dL_law_1425 ?_
    rw [e1]
    refine zcVi (ci := 4) (q0 := 0) (wf := fun (u : Nat → Nat → Int32) => wLM a g cI cZ cL B C E td (vp_updL oo 0 (b2 (¬ C 5 rc = 0)).toInt64) u) ksMM ⟨hx, hb, hml, hown, hts⟩ (zwMM hP hD hS hA) hK (c_X4_hasBounced_0 l D cI cZ g H.size M q rc hMq hq hrc) (cwV 1 hts gL_law_X4_hasBounced rfl rfl rfl (by decide +kernel) ⟨Nat.le_of_ble_eq_true rfl, Nat.le_of_ble_eq_true rfl⟩) rfl rfl (by decide) (fun _ => rfl) rfl hl.1 rfl (Nat.le_of_ble_eq_true rfl) dL_law_1426 ⟨by show cells + 0 + 0 ≤ 1086; omega, by show slots + 0 + 0 ≤ 14466; omega⟩ (fun r u H locs hw hP hD hS => ?_)
    obtain ⟨rfl, rfl⟩ := hw
    refine lv_istore (lv' := [(6, .int ((b2 (¬ M 20 rc = 0)))), (5, .int (0)), (0, .ref b), (1, .ref (a 0)), (2, .ref (g 0)), (3, .ref (a 26)), (4, .int (nI i))]) hx hb dL_law_1429 hl (by decide) rfl (fun ls hl => ?_)
    refine lw_tailH hx hb hml hown hts hK3 hA hP hD hS ⟨by decide, by decide⟩ ⟨by show cells + 0 + 0 ≤ 1086; omega, by show slots + 0 + 0 ≤ 14466; omega⟩ hl pt_s (fun _ => congrArg Int32.toInt64 (rd_hb h.1 hrc)) (by unfold b2; split <;> simp) (fun H locs hP hD hS => ?_)
    exact W.widen (by omega) (by omega) (kk _ _ _ _ _ _ _ _ _ _ _ ⟨h', hP, hD, hS, lv_sub hl [2, 3, 4, 5, 6] rfl⟩)
  · refine zcSL (wf := fun (_ : Unit) => wLM a g cI cZ cL B C E td oo M) ksLL ⟨hx, hb, hml, hown, hts⟩ (zwLL hP hD hS hA) hK3 hX hZ (c_L_hasBounced_k l hfl D cI cZ cL a H.size B C E td (xs (i + 1)) oo (Classical.not_not.mp hk)) (vx_cwSW 3 hts gL_law_L_hasBounced rfl rfl rfl (by decide +kernel) ⟨Nat.le_of_ble_eq_true rfl, Nat.le_of_ble_eq_true rfl⟩) (by decide) (fun _ => rfl) rfl hl.1 rfl (Nat.le_of_ble_eq_true rfl) dL_law_1414 ⟨hcs.1, hcs.2⟩ (fun r u H locs hw hP hD hS => ?_)
    have hw : r = 1 := hw
    subst hw
    refine lv_istore (lv' := [(5, .int (1)), (0, .ref b), (1, .ref (a 0)), (2, .ref (g 0)), (3, .ref (a 26)), (4, .int (nI i))]) hx hb dL_law_1417 hl (by decide) rfl (fun ls hl => ?_)
    refine lv_aload_n hx hb dL_law_1419 rfl (lv_at hl 3 rfl) ?_
    refine arg_ld hx hb hl 1 5 rfl rfl 1 hi hL hSc hbl hbA hS (by decide) rfl dL_law_1420 dL_law_1421 dL_law_1423 rfl dL_law_1424 dL_law_1425 ?_
    refine zcVi (ci := 4) (q0 := 0) (wf := fun (u : Nat → Nat → Int32) => wLM a g cI cZ cL B C E td oo u) ksMM ⟨hx, hb, hml, hown, hts⟩ (zwMM hP hD hS hA) hK (c_X4_hasBounced_k l D cI cZ g H.size M q (xs (i + 1)) hMq hq (nix hC hk)) (cwV 1 hts gL_law_X4_hasBounced rfl rfl rfl (by decide +kernel) ⟨Nat.le_of_ble_eq_true rfl, Nat.le_of_ble_eq_true rfl⟩) rfl rfl (by decide) (fun _ => rfl) rfl hl.1 rfl (Nat.le_of_ble_eq_true rfl) dL_law_1426 ⟨by show cells + 1 + 0 ≤ 1086; omega, by show slots + 6 + 0 ≤ 14466; omega⟩ (fun r u H locs hw hP hD hS => ?_)
    obtain ⟨rfl, rfl⟩ := hw
    refine lv_istore (lv' := [(6, .int (0)), (5, .int (1)), (0, .ref b), (1, .ref (a 0)), (2, .ref (g 0)), (3, .ref (a 26)), (4, .int (nI i))]) hx hb dL_law_1429 hl (by decide) rfl (fun ls hl => ?_)
    refine lw_tailH hx hb hml hown hts hK3 hA hP hD hS ⟨by decide, by decide⟩ ⟨by show cells + 1 + 0 ≤ 1086; omega, by show slots + 6 + 0 ≤ 14466; omega⟩ hl (by simp [pt_at]) (fun z => absurd z (by decide)) (Or.inl rfl) (fun H locs hP hD hS => ?_)
    exact W.widen (by omega) (by omega) (kk _ _ _ _ _ _ _ _ _ _ _ ⟨(rl_t (rl_0 h) (Nat.le_succ _)), hP, hD, hS, lv_sub hl [2, 3, 4, 5, 6] rfl⟩)
end LWB
