section LWLOOP
variable {p : Program} {l : Launch} {e : Env} {s : State} {m : MethodId} {below : List Frame} {meth : Method} {c : Code}
variable {D : va_G} {a g : Nat → Nat} {cI cZ cL : ClassId} {b L : Nat} {xs : Nat → Int32}
theorem and31 (v : Int32) : ∃ k : Nat, k < 32 ∧ v &&& 31 = nI k := by
  refine ⟨(v &&& 31).toBitVec.toNat, ?_, ?_⟩
  · rw [Int32.toBitVec_and, BitVec.toNat_and]
    exact Nat.lt_of_le_of_lt Nat.and_le_right (by decide)
  · apply Int32.toBitVec_inj.mp
    show _ = (Int32.ofNat _).toBitVec
    simp
theorem lw_end {i : Nat} (hi : i ≤ L) (hL : L ≤ 3072) : (Int32.ofNat L - 6 < nI i) ↔ ¬ i + 6 ≤ L := by
  have h1 : (Int32.ofNat L).toInt = (L : Int) := nI_toInt (n := L) (by omega)
  have h6 : (6 : Int32).toInt = 6 := by decide
  rw [ltI, fb_subI (by rw [h1, h6]; omega) (by rw [h1, h6]; omega), h1, h6, nI_toInt (by omega)]
  omega
set_option maxHeartbeats 4000000 in
set_option maxRecDepth 100000 in
/-- one call of the script, whichever it is -/
theorem lw_case {args : Array Value} {Q : State → Prop} {A : Nat → Prop} {i tt n q cells slots : Nat} {B C E M : Nat → Nat → Int32} {td : Int32} {oo : Nat → Int64} {H : Heap} {locs : List Loc} {ls : Array Slot} {k : Nat} (hk : k < 32) (F : LwF p l room_1 s m args c D A cI cZ cL b L xs) (S : LwS s D A a g cI cZ cL b i tt n q B C E td oo M H locs ls) (hi : i + 6 ≤ L) (ht : tt ≤ 1000) (hcs : cells + 1 ≤ 1086 ∧ slots + 6 ≤ 14466)
    (kk : LwK p l e room_1 s m args below meth c Q D A a g cI cZ cL b i tt cells slots) : W p l e room_1 s m args below meth c H locs cells slots Q (F0 m 40 ls [.int (nI k)]) := by
  have hx := F.1
  have hb := F.2.1
  match k, hk with
  | 0, _ => exact lv_tableIn (off := 128) (tgt := 168) hx hb dL_law_40 (by decide +kernel) (by decide +kernel) (by decide +kernel) (by decide) (lc_bill F S hi ht hcs kk)
  | 1, _ => exact lv_tableIn (off := 232) (tgt := 272) hx hb dL_law_40 (by decide +kernel) (by decide +kernel) (by decide +kernel) (by decide) (lc_receive F S hi ht hcs kk)
  | 2, _ => exact lv_tableIn (off := 312) (tgt := 352) hx hb dL_law_40 (by decide +kernel) (by decide +kernel) (by decide +kernel) (by decide) (lc_assign F S hi ht hcs kk)
  | 3, _ => exact lv_tableIn (off := 380) (tgt := 420) hx hb dL_law_40 (by decide +kernel) (by decide +kernel) (by decide +kernel) (by decide) (lc_apply F S hi ht hcs kk)
  | 4, _ => exact lv_tableIn (off := 436) (tgt := 476) hx hb dL_law_40 (by decide +kernel) (by decide +kernel) (by decide +kernel) (by decide) (lc_payBack F S hi ht hcs kk)
  | 5, _ => exact lv_tableIn (off := 492) (tgt := 532) hx hb dL_law_40 (by decide +kernel) (by decide +kernel) (by decide +kernel) (by decide) (lc_bounce F S hi ht hcs kk)
  | 6, _ => exact lv_tableIn (off := 548) (tgt := 588) hx hb dL_law_40 (by decide +kernel) (by decide +kernel) (by decide +kernel) (by decide) (lc_settle F S hi ht hcs kk)
  | 7, _ => exact lv_tableIn (off := 632) (tgt := 672) hx hb dL_law_40 (by decide +kernel) (by decide +kernel) (by decide +kernel) (by decide) (lc_advance F S hi ht hcs kk)
  | 8, _ => exact lv_tableIn (off := 688) (tgt := 728) hx hb dL_law_40 (by decide +kernel) (by decide +kernel) (by decide +kernel) (by decide) (lp_bills F S hcs kk)
  | 9, _ => exact lv_tableIn (off := 701) (tgt := 741) hx hb dL_law_40 (by decide +kernel) (by decide +kernel) (by decide +kernel) (by decide) (lc_open F S hi ht hcs kk)
  | 10, _ => exact lv_tableIn (off := 757) (tgt := 797) hx hb dL_law_40 (by decide +kernel) (by decide +kernel) (by decide +kernel) (by decide) (lc_due F S hi ht hcs kk)
  | 11, _ => exact lv_tableIn (off := 813) (tgt := 853) hx hb dL_law_40 (by decide +kernel) (by decide +kernel) (by decide +kernel) (by decide) (lc_paid F S hi ht hcs kk)
  | 12, _ => exact lv_tableIn (off := 869) (tgt := 909) hx hb dL_law_40 (by decide +kernel) (by decide +kernel) (by decide +kernel) (by decide) (lc_taken F S hi ht hcs kk)
  | 13, _ => exact lv_tableIn (off := 925) (tgt := 965) hx hb dL_law_40 (by decide +kernel) (by decide +kernel) (by decide +kernel) (by decide) (lc_disputed F S hi ht hcs kk)
  | 14, _ => exact lv_tableIn (off := 981) (tgt := 1021) hx hb dL_law_40 (by decide +kernel) (by decide +kernel) (by decide +kernel) (by decide) (lc_writtenOff F S hi ht hcs kk)
  | 15, _ => exact lv_tableIn (off := 1037) (tgt := 1077) hx hb dL_law_40 (by decide +kernel) (by decide +kernel) (by decide +kernel) (by decide) (lc_openOf F S hi ht hcs kk)
  | 16, _ => exact lv_tableIn (off := 1093) (tgt := 1133) hx hb dL_law_40 (by decide +kernel) (by decide +kernel) (by decide +kernel) (by decide) (lc_setFor F S hi ht hcs kk)
  | 17, _ => exact lv_tableIn (off := 1173) (tgt := 1213) hx hb dL_law_40 (by decide +kernel) (by decide +kernel) (by decide +kernel) (by decide) (lp_receipts F S hcs kk)
  | 18, _ => exact lv_tableIn (off := 1186) (tgt := 1226) hx hb dL_law_40 (by decide +kernel) (by decide +kernel) (by decide +kernel) (by decide) (lc_customerOf F S hi ht hcs kk)
  | 19, _ => exact lv_tableIn (off := 1242) (tgt := 1282) hx hb dL_law_40 (by decide +kernel) (by decide +kernel) (by decide +kernel) (by decide) (lc_appliedTo F S hi ht hcs kk)
  | 20, _ => exact lv_tableIn (off := 1310) (tgt := 1350) hx hb dL_law_40 (by decide +kernel) (by decide +kernel) (by decide +kernel) (by decide) (lc_unapplied F S hi ht hcs kk)
  | 21, _ => exact lv_tableIn (off := 1366) (tgt := 1406) hx hb dL_law_40 (by decide +kernel) (by decide +kernel) (by decide +kernel) (by decide) (lc_hasBounced F S hi ht hcs kk)
  | 22, _ => exact lv_tableIn (off := 1429) (tgt := 1469) hx hb dL_law_40 (by decide +kernel) (by decide +kernel) (by decide +kernel) (by decide) (lp_day F S hcs kk)
  | 23, _ => exact lv_tableIn (off := 1442) (tgt := 1482) hx hb dL_law_40 (by decide +kernel) (by decide +kernel) (by decide +kernel) (by decide) (lp_received F S hcs kk)
  | 24, _ => exact lv_tableIn (off := 1455) (tgt := 1495) hx hb dL_law_40 (by decide +kernel) (by decide +kernel) (by decide +kernel) (by decide) (lp_applied F S hcs kk)
  | 25, _ => exact lv_tableIn (off := 1468) (tgt := 1508) hx hb dL_law_40 (by decide +kernel) (by decide +kernel) (by decide +kernel) (by decide) (lp_allUnapplied F S hcs kk)
  | 26, _ => exact lv_tableIn (off := 1481) (tgt := 1521) hx hb dL_law_40 (by decide +kernel) (by decide +kernel) (by decide +kernel) (by decide) (lp_paidBack F S hcs kk)
  | 27, _ => exact lv_tableIn (off := 1494) (tgt := 1534) hx hb dL_law_40 (by decide +kernel) (by decide +kernel) (by decide +kernel) (by decide) (lp_bounced F S hcs kk)
  | 28, _ => exact lv_tableOut (tgt := 1547) hx hb dL_law_40 (Or.inr (by decide +kernel)) (by decide) (W.widen (Nat.le_succ _) (by omega) (kk _ _ _ _ _ _ _ _ _ _ _ ⟨rl_t S.1 (Nat.le_succ _), S.2⟩))
  | 29, _ => exact lv_tableOut (tgt := 1547) hx hb dL_law_40 (Or.inr (by decide +kernel)) (by decide) (W.widen (Nat.le_succ _) (by omega) (kk _ _ _ _ _ _ _ _ _ _ _ ⟨rl_t S.1 (Nat.le_succ _), S.2⟩))
  | 30, _ => exact lv_tableOut (tgt := 1547) hx hb dL_law_40 (Or.inr (by decide +kernel)) (by decide) (W.widen (Nat.le_succ _) (by omega) (kk _ _ _ _ _ _ _ _ _ _ _ ⟨rl_t S.1 (Nat.le_succ _), S.2⟩))
  | 31, _ => exact lv_tableOut (tgt := 1547) hx hb dL_law_40 (Or.inr (by decide +kernel)) (by decide) (W.widen (Nat.le_succ _) (by omega) (kk _ _ _ _ _ _ _ _ _ _ _ ⟨rl_t S.1 (Nat.le_succ _), S.2⟩))
  | k + 32, hk => exact absurd hk (by omega)
set_option maxHeartbeats 4000000 in
set_option maxRecDepth 100000 in
/-- THE LAW'S LOOP: at its head, with tt calls done, class and reference are alike -/
theorem law_loop (hr : meth.sig.returnType = ret) (hlocks : meth.locks = false) (F : LwF p l room_1 s m #[Value.ref b] c D (fun q => s.heap.size ≤ q) cI cZ cL b L xs) :
    ∀ (k tt n q : Nat) (B C E : Nat → Nat → Int32) (td : Int32) (oo : Nat → Int64) (M : Nat → Nat → Int32) (H : Heap) (locs : List Loc) (ls : Array Slot), L + 1 ≤ 6 * tt + k → 6 * tt ≤ L → LwS s D (fun q => s.heap.size ≤ q) a g cI cZ cL b (6 * tt) tt n q B C E td oo M H locs ls → W p l e room_1 s m #[Value.ref b] below meth c H locs (60 + tt) (6400 + 6 * tt) (lw_Z below #[Value.ref b] s) (F0 m 23 ls []) := by
  obtain ⟨hx, hb, hml, hown, hts, hK3, hA, hSc, hbl, hbA, hX, hZ, hfl, hL, -⟩ := id F
  intro k
  induction k with
  | zero =>
    intro tt n q B C E td oo M H locs ls h1 h2
    exact absurd h2 (by omega)
  | succ k ih =>
    intro tt n q B C E td oo M H locs ls h1 h2 S
    obtain ⟨h, hP, hD, hS, hl⟩ := id S
    refine lv_iload hx hb dL_law_23 (lv_at hl 4 rfl) ?_
    refine lv_aload_n hx hb dL_law_25 rfl (lv_at hl 0 rfl) ?_
    refine va_slen hx hb hSc hbl hbA hS dL_law_26 ?_
    refine lv_bipush (v := 6) hx hb dL_law_27 (by decide) ?_
    refine lv_isub hx hb dL_law_29 ?_
    refine lv_icmp_gt (tgt := 1553) hx hb dL_law_30 (by decide) (fun z => ?_) (fun z => ?_)
    · refine lv_iconst (v := 1) hx hb dL_law_1553 (by decide) ?_
      refine va_forget (fun q hq => hS.2.2 q hq) ?_
      refine W.widen (k := 1086) (n := 14466) (by omega) (by omega) ?_
      exact lw_ret hx hb hr hlocks dL_law_1554
    · have hi : 6 * tt + 6 ≤ L := Classical.not_not.mp fun w => z ((lw_end h2 hL).mpr w)
      refine lv_aload_n hx hb dL_law_33 rfl (lv_at hl 0 rfl) ?_
      refine lv_iload hx hb dL_law_34 (lv_at hl 4 rfl) ?_
      refine va_sld hx hb hSc hbl hbA hS (vp_in_nI (n := 6 * tt) (N := L) (by omega) (by omega)) dL_law_36 ?_
      refine lv_bipush (v := 31) hx hb dL_law_37 (by decide) ?_
      refine lv_iand hx hb dL_law_39 ?_
      obtain ⟨k0, hk0, e0⟩ := and31 (xs (nI (6 * tt)).toNatClampNeg)
      rw [e0]
      refine lw_case hk0 F S hi (by omega) ⟨by omega, by omega⟩ ?_
      intro n1 q1 B1 C1 E1 td1 oo1 M1 H1 locs1 ls1 S1
      obtain ⟨h', hP1, hD1, hS1, hl1⟩ := S1
      refine lv_iinc (v := nI (6 * (tt + 1))) (lv' := [(4, .int (nI (6 * (tt + 1)))), (0, .ref b), (1, .ref (a 0)), (2, .ref (g 0)), (3, .ref (a 26))]) hx hb dL_law_1547 hl1 (k := 4) rfl (by rw [show Int32.ofInt 6 = nI 6 by decide, nI_add, Nat.mul_succ]) (by decide) rfl (fun ls2 hl2 => ?_)
      refine lv_goto (tgt := 23) hx hb dL_law_1550 (by decide) ?_
      refine W.widen (k := 60 + (tt + 1)) (n := 6400 + 6 * (tt + 1)) (by omega) (by omega) ?_
      exact ih (tt + 1) n1 q1 B1 C1 E1 td1 oo1 M1 H1 locs1 ls2 (by omega) (by omega) ⟨h', hP1, hD1, hS1, lv_sub hl2 [1, 2, 3, 4, 0] rfl⟩
end LWLOOP
