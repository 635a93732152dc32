section LWB
variable {p : Program} {l : Launch} {e : Env} {R : Room} {s : State} {m : MethodId} {args : Array Value} {below : List Frame} {meth : Method} {c : Code} {H : Heap} {locs : List Loc} {cells slots : Nat} {Q : State → Prop}
variable {ls : Array Slot} {D : va_G} {A : Nat → Prop} {a g : Nat → Nat} {cI cZ cL : ClassId} {B C E M : Nat → Nat → Int32} {td : Int32} {oo : Nat → Int64} {b L i tt n q : Nat} {xs : Nat → Int32}
set_option maxHeartbeats 4000000 in
set_option maxRecDepth 100000 in
theorem lp_bills (F : LwF p l R s m args c D A cI cZ cL b L xs) (S : LwS s D A a g cI cZ cL b i tt n q B C E td oo M H locs ls) (hcs : cells + 1 ≤ 1086 ∧ slots + 6 ≤ 14466)
    (kk : LwK p l e R s m args below meth c Q D A a g cI cZ cL b i tt cells slots) : W p l e R s m args below meth c H locs cells slots Q (F0 m 728 ls []) := by
  obtain ⟨hx, hb, hml, hown, hts, hK3, hA, hSc, hbl, hbA, hX, hZ, hfl, hL, rfl⟩ := F
  obtain ⟨h, hP, hD, hS, hl⟩ := S
  have hK : va_K D vwCl (tyl cI cZ) s := hK3.sub (tys' := tyl cI cZ) [0, 1] rfl
  have hB : B 11 0 = nI n := h.1.1.1
  have hM : M 2 0 = nI n := h.1.1.2.1
  have hC : C 8 0 = nI q := h.1.2.2.1.1
  have hMq : M 15 0 = nI q := h.1.2.2.1.2.1
  have hq : q ≤ 30 := h.1.2.2.1.2.2.1
  refine lv_aload_n hx hb dL_law_728 rfl (lv_at hl 1 rfl) ?_
  refine zcVi (ci := 3) (q0 := 0) (wf := fun (_ : Unit) => wLM a g cI cZ cL B C E td oo M) ksCC ⟨hx, hb, hml, hown, hts⟩ (zwCC hP hD hS hA) hK (c_X3_bills l D cI cZ a H.size B C E td ) (cwV 0 hts gL_law_X3_bills rfl rfl rfl (by decide +kernel) ⟨Nat.le_of_ble_eq_true rfl, Nat.le_of_ble_eq_true rfl⟩) rfl rfl (by decide) (fun _ => rfl) rfl hl.1 rfl (Nat.le_of_ble_eq_true rfl) dL_law_729 ⟨by show cells + 0 ≤ 1086; omega, by show slots + 0 ≤ 14466; omega⟩ (fun r u H locs hw hP hD hS => ?_)
  have hw : r = B 11 0 := hw
  rw [hw]
  refine lv_aload_n hx hb dL_law_732 rfl (lv_at hl 2 rfl) ?_
  refine zcVi (ci := 4) (q0 := 0) (wf := fun (u : Nat → Nat → Int32) => wLM a g cI cZ cL B C E td oo u) ksMM ⟨hx, hb, hml, hown, hts⟩ (zwMM hP hD hS hA) hK (c_X4_bills l D cI cZ g H.size M ) (cwV 0 hts gL_law_X4_bills rfl rfl rfl (by decide +kernel) ⟨Nat.le_of_ble_eq_true rfl, Nat.le_of_ble_eq_true rfl⟩) rfl rfl (by decide) (fun _ => rfl) rfl hl.1 rfl (Nat.le_of_ble_eq_true rfl) dL_law_733 ⟨by show cells + 0 + 0 ≤ 1086; omega, by show slots + 0 + 0 ≤ 14466; omega⟩ (fun r u H locs hw hP hD hS => ?_)
  obtain ⟨rfl, rfl⟩ := hw
  refine lv_icmp_eq (tgt := 1547) hx hb dL_law_736 (by decide) (fun _ => ?_) (fun z => absurd (hB.trans hM.symm) z)
  exact W.widen (by omega) (by omega) (kk _ _ _ _ _ _ _ _ _ _ _ ⟨rl_t (rl_0 h) (Nat.le_succ _), hP, hD, hS, hl⟩)
set_option maxHeartbeats 4000000 in
set_option maxRecDepth 100000 in
theorem lp_receipts (F : LwF p l R s m args c D A cI cZ cL b L xs) (S : LwS s D A a g cI cZ cL b i tt n q B C E td oo M H locs ls) (hcs : cells + 1 ≤ 1086 ∧ slots + 6 ≤ 14466)
    (kk : LwK p l e R s m args below meth c Q D A a g cI cZ cL b i tt cells slots) : W p l e R s m args below meth c H locs cells slots Q (F0 m 1213 ls []) := by
  obtain ⟨hx, hb, hml, hown, hts, hK3, hA, hSc, hbl, hbA, hX, hZ, hfl, hL, rfl⟩ := F
  obtain ⟨h, hP, hD, hS, hl⟩ := S
  have hK : va_K D vwCl (tyl cI cZ) s := hK3.sub (tys' := tyl cI cZ) [0, 1] rfl
  have hB : B 11 0 = nI n := h.1.1.1
  have hM : M 2 0 = nI n := h.1.1.2.1
  have hC : C 8 0 = nI q := h.1.2.2.1.1
  have hMq : M 15 0 = nI q := h.1.2.2.1.2.1
  have hq : q ≤ 30 := h.1.2.2.1.2.2.1
  refine lv_aload_n hx hb dL_law_1213 rfl (lv_at hl 1 rfl) ?_
  refine zcVi (ci := 3) (q0 := 0) (wf := fun (_ : Unit) => wLM a g cI cZ cL B C E td oo M) ksCC ⟨hx, hb, hml, hown, hts⟩ (zwCC hP hD hS hA) hK (c_X3_receipts l D cI cZ a H.size B C E td ) (cwV 0 hts gL_law_X3_receipts rfl rfl rfl (by decide +kernel) ⟨Nat.le_of_ble_eq_true rfl, Nat.le_of_ble_eq_true rfl⟩) rfl rfl (by decide) (fun _ => rfl) rfl hl.1 rfl (Nat.le_of_ble_eq_true rfl) dL_law_1214 ⟨by show cells + 0 ≤ 1086; omega, by show slots + 0 ≤ 14466; omega⟩ (fun r u H locs hw hP hD hS => ?_)
  have hw : r = C 8 0 := hw
  rw [hw]
  refine lv_aload_n hx hb dL_law_1217 rfl (lv_at hl 2 rfl) ?_
  refine zcVi (ci := 4) (q0 := 0) (wf := fun (u : Nat → Nat → Int32) => wLM a g cI cZ cL B C E td oo u) ksMM ⟨hx, hb, hml, hown, hts⟩ (zwMM hP hD hS hA) hK (c_X4_receipts l D cI cZ g H.size M ) (cwV 0 hts gL_law_X4_receipts rfl rfl rfl (by decide +kernel) ⟨Nat.le_of_ble_eq_true rfl, Nat.le_of_ble_eq_true rfl⟩) rfl rfl (by decide) (fun _ => rfl) rfl hl.1 rfl (Nat.le_of_ble_eq_true rfl) dL_law_1218 ⟨by show cells + 0 + 0 ≤ 1086; omega, by show slots + 0 + 0 ≤ 14466; omega⟩ (fun r u H locs hw hP hD hS => ?_)
  obtain ⟨rfl, rfl⟩ := hw
  refine lv_icmp_eq (tgt := 1547) hx hb dL_law_1221 (by decide) (fun _ => ?_) (fun z => absurd (hC.trans hMq.symm) z)
  exact W.widen (by omega) (by omega) (kk _ _ _ _ _ _ _ _ _ _ _ ⟨rl_t (rl_0 h) (Nat.le_succ _), hP, hD, hS, hl⟩)
set_option maxHeartbeats 4000000 in
set_option maxRecDepth 100000 in
theorem lp_day (F : LwF p l R s m args c D A cI cZ cL b L xs) (S : LwS s D A a g cI cZ cL b i tt n q B C E td oo M H locs ls) (hcs : cells + 1 ≤ 1086 ∧ slots + 6 ≤ 14466)
    (kk : LwK p l e R s m args below meth c Q D A a g cI cZ cL b i tt cells slots) : W p l e R s m args below meth c H locs cells slots Q (F0 m 1469 ls []) := by
  obtain ⟨hx, hb, hml, hown, hts, hK3, hA, hSc, hbl, hbA, hX, hZ, hfl, hL, rfl⟩ := F
  obtain ⟨h, hP, hD, hS, hl⟩ := S
  have hK : va_K D vwCl (tyl cI cZ) s := hK3.sub (tys' := tyl cI cZ) [0, 1] rfl
  have hB : B 11 0 = nI n := h.1.1.1
  have hM : M 2 0 = nI n := h.1.1.2.1
  have hC : C 8 0 = nI q := h.1.2.2.1.1
  have hMq : M 15 0 = nI q := h.1.2.2.1.2.1
  have hq : q ≤ 30 := h.1.2.2.1.2.2.1
  refine lv_aload_n hx hb dL_law_1469 rfl (lv_at hl 1 rfl) ?_
  refine zcVi (ci := 3) (q0 := 0) (wf := fun (_ : Unit) => wLM a g cI cZ cL B C E td oo M) ksCC ⟨hx, hb, hml, hown, hts⟩ (zwCC hP hD hS hA) hK (c_X3_day l D cI cZ a H.size B C E td ) (cwV 0 hts gL_law_X3_day rfl rfl rfl (by decide +kernel) ⟨Nat.le_of_ble_eq_true rfl, Nat.le_of_ble_eq_true rfl⟩) rfl rfl (by decide) (fun _ => rfl) rfl hl.1 rfl (Nat.le_of_ble_eq_true rfl) dL_law_1470 ⟨by show cells + 0 ≤ 1086; omega, by show slots + 0 ≤ 14466; omega⟩ (fun r u H locs hw hP hD hS => ?_)
  have hw : r = td := hw
  rw [hw]
  refine lv_aload_n hx hb dL_law_1473 rfl (lv_at hl 2 rfl) ?_
  refine zcVi (ci := 4) (q0 := 0) (wf := fun (u : Nat → Nat → Int32) => wLM a g cI cZ cL B C E td oo u) ksMM ⟨hx, hb, hml, hown, hts⟩ (zwMM hP hD hS hA) hK (c_X4_day l D cI cZ g H.size M ) (cwV 0 hts gL_law_X4_day rfl rfl rfl (by decide +kernel) ⟨Nat.le_of_ble_eq_true rfl, Nat.le_of_ble_eq_true rfl⟩) rfl rfl (by decide) (fun _ => rfl) rfl hl.1 rfl (Nat.le_of_ble_eq_true rfl) dL_law_1474 ⟨by show cells + 0 + 0 ≤ 1086; omega, by show slots + 0 + 0 ≤ 14466; omega⟩ (fun r u H locs hw hP hD hS => ?_)
  obtain ⟨rfl, rfl⟩ := hw
  refine lv_icmp_eq (tgt := 1547) hx hb dL_law_1477 (by decide) (fun _ => ?_) (fun z => absurd h.1.1.2.2.2.1.symm z)
  exact W.widen (by omega) (by omega) (kk _ _ _ _ _ _ _ _ _ _ _ ⟨rl_t (rl_0 h) (Nat.le_succ _), hP, hD, hS, hl⟩)
set_option maxHeartbeats 4000000 in
set_option maxRecDepth 100000 in
theorem lp_received (F : LwF p l R s m args c D A cI cZ cL b L xs) (S : LwS s D A a g cI cZ cL b i tt n q B C E td oo M H locs ls) (hcs : cells + 1 ≤ 1086 ∧ slots + 6 ≤ 14466)
    (kk : LwK p l e R s m args below meth c Q D A a g cI cZ cL b i tt cells slots) : W p l e R s m args below meth c H locs cells slots Q (F0 m 1482 ls []) := by
  obtain ⟨hx, hb, hml, hown, hts, hK3, hA, hSc, hbl, hbA, hX, hZ, hfl, hL, rfl⟩ := F
  obtain ⟨h, hP, hD, hS, hl⟩ := S
  have hK : va_K D vwCl (tyl cI cZ) s := hK3.sub (tys' := tyl cI cZ) [0, 1] rfl
  have hB : B 11 0 = nI n := h.1.1.1
  have hM : M 2 0 = nI n := h.1.1.2.1
  have hC : C 8 0 = nI q := h.1.2.2.1.1
  have hMq : M 15 0 = nI q := h.1.2.2.1.2.1
  have hq : q ≤ 30 := h.1.2.2.1.2.2.1
  refine lv_aload_n hx hb dL_law_1482 rfl (lv_at hl 1 rfl) ?_
  refine zcVi (ci := 3) (q0 := 0) (wf := fun (_ : Unit) => wLM a g cI cZ cL B C E td oo M) ksCC ⟨hx, hb, hml, hown, hts⟩ (zwCC hP hD hS hA) hK (c_X3_received l D cI cZ a H.size B C E td q hC hq) (cwV 0 hts gL_law_X3_received rfl rfl rfl (by decide +kernel) ⟨Nat.le_of_ble_eq_true rfl, Nat.le_of_ble_eq_true rfl⟩) rfl rfl (by decide) (fun _ => rfl) rfl hl.1 rfl (Nat.le_of_ble_eq_true rfl) dL_law_1483 ⟨by show cells + 0 ≤ 1086; omega, by show slots + 0 ≤ 14466; omega⟩ (fun r u H locs hw hP hD hS => ?_)
  have hw : r = l_sum (C 1) q := hw
  rw [hw]
  refine lv_aload_n hx hb dL_law_1486 rfl (lv_at hl 2 rfl) ?_
  refine zcVi (ci := 4) (q0 := 0) (wf := fun (u : Nat → Nat → Int32) => wLM a g cI cZ cL B C E td oo u) ksMM ⟨hx, hb, hml, hown, hts⟩ (zwMM hP hD hS hA) hK (c_X4_received l D cI cZ g H.size M q hMq hq) (cwV 0 hts gL_law_X4_received rfl rfl rfl (by decide +kernel) ⟨Nat.le_of_ble_eq_true rfl, Nat.le_of_ble_eq_true rfl⟩) rfl rfl (by decide) (fun _ => rfl) rfl hl.1 rfl (Nat.le_of_ble_eq_true rfl) dL_law_1487 ⟨by show cells + 0 + 0 ≤ 1086; omega, by show slots + 0 + 0 ≤ 14466; omega⟩ (fun r u H locs hw hP hD hS => ?_)
  obtain ⟨rfl, rfl⟩ := hw
  refine lv_icmp_eq (tgt := 1547) hx hb dL_law_1490 (by decide) (fun _ => ?_) (fun z => absurd (rd_16 h.1).1 z)
  exact W.widen (by omega) (by omega) (kk _ _ _ _ _ _ _ _ _ _ _ ⟨rl_t (rl_0 h) (Nat.le_succ _), hP, hD, hS, hl⟩)
set_option maxHeartbeats 4000000 in
set_option maxRecDepth 100000 in
theorem lp_applied (F : LwF p l R s m args c D A cI cZ cL b L xs) (S : LwS s D A a g cI cZ cL b i tt n q B C E td oo M H locs ls) (hcs : cells + 1 ≤ 1086 ∧ slots + 6 ≤ 14466)
    (kk : LwK p l e R s m args below meth c Q D A a g cI cZ cL b i tt cells slots) : W p l e R s m args below meth c H locs cells slots Q (F0 m 1495 ls []) := by
  obtain ⟨hx, hb, hml, hown, hts, hK3, hA, hSc, hbl, hbA, hX, hZ, hfl, hL, rfl⟩ := F
  obtain ⟨h, hP, hD, hS, hl⟩ := S
  have hK : va_K D vwCl (tyl cI cZ) s := hK3.sub (tys' := tyl cI cZ) [0, 1] rfl
  have hB : B 11 0 = nI n := h.1.1.1
  have hM : M 2 0 = nI n := h.1.1.2.1
  have hC : C 8 0 = nI q := h.1.2.2.1.1
  have hMq : M 15 0 = nI q := h.1.2.2.1.2.1
  have hq : q ≤ 30 := h.1.2.2.1.2.2.1
  refine lv_aload_n hx hb dL_law_1495 rfl (lv_at hl 1 rfl) ?_
  refine zcVi (ci := 3) (q0 := 0) (wf := fun (_ : Unit) => wLM a g cI cZ cL B C E td oo M) ksCC ⟨hx, hb, hml, hown, hts⟩ (zwCC hP hD hS hA) hK (c_X3_applied l D cI cZ a H.size B C E td q hC hq) (cwV 0 hts gL_law_X3_applied rfl rfl rfl (by decide +kernel) ⟨Nat.le_of_ble_eq_true rfl, Nat.le_of_ble_eq_true rfl⟩) rfl rfl (by decide) (fun _ => rfl) rfl hl.1 rfl (Nat.le_of_ble_eq_true rfl) dL_law_1496 ⟨by show cells + 0 ≤ 1086; omega, by show slots + 0 ≤ 14466; omega⟩ (fun r u H locs hw hP hD hS => ?_)
  have hw : r = l_sum (C 2) q := hw
  rw [hw]
  refine lv_aload_n hx hb dL_law_1499 rfl (lv_at hl 2 rfl) ?_
  refine zcVi (ci := 4) (q0 := 0) (wf := fun (u : Nat → Nat → Int32) => wLM a g cI cZ cL B C E td oo u) ksMM ⟨hx, hb, hml, hown, hts⟩ (zwMM hP hD hS hA) hK (c_X4_applied l D cI cZ g H.size M q hMq hq) (cwV 0 hts gL_law_X4_applied rfl rfl rfl (by decide +kernel) ⟨Nat.le_of_ble_eq_true rfl, Nat.le_of_ble_eq_true rfl⟩) rfl rfl (by decide) (fun _ => rfl) rfl hl.1 rfl (Nat.le_of_ble_eq_true rfl) dL_law_1500 ⟨by show cells + 0 + 0 ≤ 1086; omega, by show slots + 0 + 0 ≤ 14466; omega⟩ (fun r u H locs hw hP hD hS => ?_)
  obtain ⟨rfl, rfl⟩ := hw
  refine lv_icmp_eq (tgt := 1547) hx hb dL_law_1503 (by decide) (fun _ => ?_) (fun z => absurd (rd_apl h.1 hq) z)
  exact W.widen (by omega) (by omega) (kk _ _ _ _ _ _ _ _ _ _ _ ⟨rl_t (rl_0 h) (Nat.le_succ _), hP, hD, hS, hl⟩)
set_option maxHeartbeats 4000000 in
set_option maxRecDepth 100000 in
theorem lp_allUnapplied (F : LwF p l R s m args c D A cI cZ cL b L xs) (S : LwS s D A a g cI cZ cL b i tt n q B C E td oo M H locs ls) (hcs : cells + 1 ≤ 1086 ∧ slots + 6 ≤ 14466)
    (kk : LwK p l e R s m args below meth c Q D A a g cI cZ cL b i tt cells slots) : W p l e R s m args below meth c H locs cells slots Q (F0 m 1508 ls []) := by
  obtain ⟨hx, hb, hml, hown, hts, hK3, hA, hSc, hbl, hbA, hX, hZ, hfl, hL, rfl⟩ := F
  obtain ⟨h, hP, hD, hS, hl⟩ := S
  have hK : va_K D vwCl (tyl cI cZ) s := hK3.sub (tys' := tyl cI cZ) [0, 1] rfl
  have hB : B 11 0 = nI n := h.1.1.1
  have hM : M 2 0 = nI n := h.1.1.2.1
  have hC : C 8 0 = nI q := h.1.2.2.1.1
  have hMq : M 15 0 = nI q := h.1.2.2.1.2.1
  have hq : q ≤ 30 := h.1.2.2.1.2.2.1
  refine lv_aload_n hx hb dL_law_1508 rfl (lv_at hl 1 rfl) ?_
  refine zcVi (ci := 3) (q0 := 0) (wf := fun (_ : Unit) => wLM a g cI cZ cL B C E td oo M) ksCC ⟨hx, hb, hml, hown, hts⟩ (zwCC hP hD hS hA) hK (c_X3_allUnapplied l D cI cZ a H.size B C E td q hC hq) (cwV 0 hts gL_law_X3_allUnapplied rfl rfl rfl (by decide +kernel) ⟨Nat.le_of_ble_eq_true rfl, Nat.le_of_ble_eq_true rfl⟩) rfl rfl (by decide) (fun _ => rfl) rfl hl.1 rfl (Nat.le_of_ble_eq_true rfl) dL_law_1509 ⟨by show cells + 0 ≤ 1086; omega, by show slots + 0 ≤ 14466; omega⟩ (fun r u H locs hw hP hD hS => ?_)
  have hw : r = l_sum (C 3) q := hw
  rw [hw]
  refine lv_aload_n hx hb dL_law_1512 rfl (lv_at hl 2 rfl) ?_
  refine zcVi (ci := 4) (q0 := 0) (wf := fun (u : Nat → Nat → Int32) => wLM a g cI cZ cL B C E td oo u) ksMM ⟨hx, hb, hml, hown, hts⟩ (zwMM hP hD hS hA) hK (c_X4_allUnapplied l D cI cZ g H.size M q hMq hq) (cwV 0 hts gL_law_X4_allUnapplied rfl rfl rfl (by decide +kernel) ⟨Nat.le_of_ble_eq_true rfl, Nat.le_of_ble_eq_true rfl⟩) rfl rfl (by decide) (fun _ => rfl) rfl hl.1 rfl (Nat.le_of_ble_eq_true rfl) dL_law_1513 ⟨by show cells + 0 + 0 ≤ 1086; omega, by show slots + 0 + 0 ≤ 14466; omega⟩ (fun r u H locs hw hP hD hS => ?_)
  obtain ⟨rfl, rfl⟩ := hw
  refine lv_icmp_eq (tgt := 1547) hx hb dL_law_1516 (by decide) (fun _ => ?_) (fun z => absurd (rd_16 h.1).2.1 z)
  exact W.widen (by omega) (by omega) (kk _ _ _ _ _ _ _ _ _ _ _ ⟨rl_t (rl_0 h) (Nat.le_succ _), hP, hD, hS, hl⟩)
set_option maxHeartbeats 4000000 in
set_option maxRecDepth 100000 in
theorem lp_paidBack (F : LwF p l R s m args c D A cI cZ cL b L xs) (S : LwS s D A a g cI cZ cL b i tt n q B C E td oo M H locs ls) (hcs : cells + 1 ≤ 1086 ∧ slots + 6 ≤ 14466)
    (kk : LwK p l e R s m args below meth c Q D A a g cI cZ cL b i tt cells slots) : W p l e R s m args below meth c H locs cells slots Q (F0 m 1521 ls []) := by
  obtain ⟨hx, hb, hml, hown, hts, hK3, hA, hSc, hbl, hbA, hX, hZ, hfl, hL, rfl⟩ := F
  obtain ⟨h, hP, hD, hS, hl⟩ := S
  have hK : va_K D vwCl (tyl cI cZ) s := hK3.sub (tys' := tyl cI cZ) [0, 1] rfl
  have hB : B 11 0 = nI n := h.1.1.1
  have hM : M 2 0 = nI n := h.1.1.2.1
  have hC : C 8 0 = nI q := h.1.2.2.1.1
  have hMq : M 15 0 = nI q := h.1.2.2.1.2.1
  have hq : q ≤ 30 := h.1.2.2.1.2.2.1
  refine lv_aload_n hx hb dL_law_1521 rfl (lv_at hl 1 rfl) ?_
  refine zcVi (ci := 3) (q0 := 0) (wf := fun (_ : Unit) => wLM a g cI cZ cL B C E td oo M) ksCC ⟨hx, hb, hml, hown, hts⟩ (zwCC hP hD hS hA) hK (c_X3_paidBack l D cI cZ a H.size B C E td q hC hq) (cwV 0 hts gL_law_X3_paidBack rfl rfl rfl (by decide +kernel) ⟨Nat.le_of_ble_eq_true rfl, Nat.le_of_ble_eq_true rfl⟩) rfl rfl (by decide) (fun _ => rfl) rfl hl.1 rfl (Nat.le_of_ble_eq_true rfl) dL_law_1522 ⟨by show cells + 0 ≤ 1086; omega, by show slots + 0 ≤ 14466; omega⟩ (fun r u H locs hw hP hD hS => ?_)
  have hw : r = l_sum (C 4) q := hw
  rw [hw]
  refine lv_aload_n hx hb dL_law_1525 rfl (lv_at hl 2 rfl) ?_
  refine zcVi (ci := 4) (q0 := 0) (wf := fun (u : Nat → Nat → Int32) => wLM a g cI cZ cL B C E td oo u) ksMM ⟨hx, hb, hml, hown, hts⟩ (zwMM hP hD hS hA) hK (c_X4_paidBack l D cI cZ g H.size M q hMq hq) (cwV 0 hts gL_law_X4_paidBack rfl rfl rfl (by decide +kernel) ⟨Nat.le_of_ble_eq_true rfl, Nat.le_of_ble_eq_true rfl⟩) rfl rfl (by decide) (fun _ => rfl) rfl hl.1 rfl (Nat.le_of_ble_eq_true rfl) dL_law_1526 ⟨by show cells + 0 + 0 ≤ 1086; omega, by show slots + 0 + 0 ≤ 14466; omega⟩ (fun r u H locs hw hP hD hS => ?_)
  obtain ⟨rfl, rfl⟩ := hw
  refine lv_icmp_eq (tgt := 1547) hx hb dL_law_1529 (by decide) (fun _ => ?_) (fun z => absurd (rd_16 h.1).2.2 z)
  exact W.widen (by omega) (by omega) (kk _ _ _ _ _ _ _ _ _ _ _ ⟨rl_t (rl_0 h) (Nat.le_succ _), hP, hD, hS, hl⟩)
set_option maxHeartbeats 4000000 in
set_option maxRecDepth 100000 in
theorem lp_bounced (F : LwF p l R s m args c D A cI cZ cL b L xs) (S : LwS s D A a g cI cZ cL b i tt n q B C E td oo M H locs ls) (hcs : cells + 1 ≤ 1086 ∧ slots + 6 ≤ 14466)
    (kk : LwK p l e R s m args below meth c Q D A a g cI cZ cL b i tt cells slots) : W p l e R s m args below meth c H locs cells slots Q (F0 m 1534 ls []) := by
  obtain ⟨hx, hb, hml, hown, hts, hK3, hA, hSc, hbl, hbA, hX, hZ, hfl, hL, rfl⟩ := F
  obtain ⟨h, hP, hD, hS, hl⟩ := S
  have hK : va_K D vwCl (tyl cI cZ) s := hK3.sub (tys' := tyl cI cZ) [0, 1] rfl
  have hB : B 11 0 = nI n := h.1.1.1
  have hM : M 2 0 = nI n := h.1.1.2.1
  have hC : C 8 0 = nI q := h.1.2.2.1.1
  have hMq : M 15 0 = nI q := h.1.2.2.1.2.1
  have hq : q ≤ 30 := h.1.2.2.1.2.2.1
  refine lv_aload_n hx hb dL_law_1534 rfl (lv_at hl 1 rfl) ?_
  refine zcVi (ci := 3) (q0 := 0) (wf := fun (_ : Unit) => wLM a g cI cZ cL B C E td oo M) ksCC ⟨hx, hb, hml, hown, hts⟩ (zwCC hP hD hS hA) hK (c_X3_bounced l D cI cZ a H.size B C E td q hC hq) (cwV 0 hts gL_law_X3_bounced rfl rfl rfl (by decide +kernel) ⟨Nat.le_of_ble_eq_true rfl, Nat.le_of_ble_eq_true rfl⟩) rfl rfl (by decide) (fun _ => rfl) rfl hl.1 rfl (Nat.le_of_ble_eq_true rfl) dL_law_1535 ⟨by show cells + 0 ≤ 1086; omega, by show slots + 0 ≤ 14466; omega⟩ (fun r u H locs hw hP hD hS => ?_)
  have hw : r = bsm C q := hw
  rw [hw]
  refine lv_aload_n hx hb dL_law_1538 rfl (lv_at hl 2 rfl) ?_
  refine zcVi (ci := 4) (q0 := 0) (wf := fun (u : Nat → Nat → Int32) => wLM a g cI cZ cL B C E td oo u) ksMM ⟨hx, hb, hml, hown, hts⟩ (zwMM hP hD hS hA) hK (c_X4_bounced l D cI cZ g H.size M q hMq hq) (cwV 0 hts gL_law_X4_bounced rfl rfl rfl (by decide +kernel) ⟨Nat.le_of_ble_eq_true rfl, Nat.le_of_ble_eq_true rfl⟩) rfl rfl (by decide) (fun _ => rfl) rfl hl.1 rfl (Nat.le_of_ble_eq_true rfl) dL_law_1539 ⟨by show cells + 0 + 0 ≤ 1086; omega, by show slots + 0 + 0 ≤ 14466; omega⟩ (fun r u H locs hw hP hD hS => ?_)
  obtain ⟨rfl, rfl⟩ := hw
  refine lv_icmp_eq (tgt := 1547) hx hb dL_law_1542 (by decide) (fun _ => ?_) (fun z => absurd (rd_bsm h.1 hq) z)
  exact W.widen (by omega) (by omega) (kk _ _ _ _ _ _ _ _ _ _ _ ⟨rl_t (rl_0 h) (Nat.le_succ _), hP, hD, hS, hl⟩)
end LWB
