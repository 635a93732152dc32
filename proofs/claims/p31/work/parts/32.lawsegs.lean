set_option maxHeartbeats 8000000 in
set_option maxRecDepth 100000 in
theorem lw_a {p : Program} {l : Launch} {e : Env} {s : State} {m : MethodId} {args : Array Value} {below : List Frame} {meth : Method} {c : Code} {Q : State → Prop} {D : va_G} {A : Nat → Prop} {cI cZ : ClassId} {a g : Nat → Nat} {B R E : Nat → Nat → Int32} {td : Int32} {qm qw : Nat} {mm ww : Nat → Int32} {b L : Nat} {xs : Nat → Int32} {H : Heap} {locs : List Loc} {ls : Array Slot} (cells : Nat) (slots : Nat) (n : Nat) (q : Nat) (T : Nat) (k : Nat) (F : CallFix p m c code 11 s args wsL_law RL) (hK : va_K D vwCl (tyl cI cZ) s) (hA : ∀ q : Nat, s.heap.size ≤ q → A q) (hX : ExB s) (hZ : ExZ A s s.heap) (hfl : l.stackTraces = false) (hSc : va_X b L xs s s.heap) (hbl : b < s.heap.size) (hbA : ¬ A b) (hL : L ≤ 260) (hc1 : cells + 100 ≤ 600086) (hc2 : slots + 700 ≤ 7301442) (hI : Inv B R n q mm ww) (hT : T ≤ 44) (hk : k < T) (hP : va_P D vwCl (wLW a g cI cZ B R E (td) B R E (td) qm qw mm ww) H) (hD : va_D A (wLW a g cI cZ B R E (td) B R E (td) qm qw mm ww)) (hS : va_S A s.heap H locs) (hl : lv_has ls 11 [(0, .ref (b)), (1, .ref (a 0)), (2, .ref (g 0)), (3, .ref (qm)), (4, .ref (qw)), (5, .int (nI (T))), (6, .int (nI (1))), (7, .int (nI (k)))])
    (k74 : ∀ (x : Nat) (hx9 : x < 2147483648) (H : Heap) (locs : List Loc) (ls : Array Slot), va_P D vwCl (wLW a g cI cZ B R E (td) B R E (td) qm qw mm ww) H → va_D A (wLW a g cI cZ B R E (td) B R E (td) qm qw mm ww) → va_S A s.heap H locs → lv_has ls 11 [(0, .ref (b)), (1, .ref (a 0)), (2, .ref (g 0)), (3, .ref (qm)), (4, .ref (qw)), (5, .int (nI (T))), (6, .int (nI (1))), (7, .int (nI (k))), (8, .int (nI (x))), (9, .int (nI (n)))] → W p l e room_1 s m args below meth c H locs (cells + 0) (slots + 0) Q (F0 m 74 ls [])) :
    W p l e room_1 s m args below meth c H locs (cells + 0) (slots + 0) Q (F0 m 53 ls []) := by
  obtain ⟨hx, hb, hml, hown, hts⟩ := id F
  have cl_drawn : CallB room_1 s args RL 169 yL_drawn cL_drawn 2 (some .int) wsL_drawn ({ frames := 0, cells := 0, slots := 0, locals := 0 } : Room) 0 0 2 ∧ (Cond.static yL_drawn).before args s = true := cwS 2 hts gL_law_L_drawn rfl rfl rfl (by decide +kernel) ⟨Nat.le_of_ble_eq_true rfl, Nat.le_of_ble_eq_true rfl⟩
  have cv_bills : CallW room_1 s args RL RX3 90 yX3_bills cX3_bills 1 (some .int) wsX3_bills ({ frames := 0, cells := 0, slots := 0, locals := 0 } : Room) 0 0 0 := cwV 0 hts gL_law_X3_bills rfl rfl rfl (by decide +kernel) ⟨Nat.le_of_ble_eq_true rfl, Nat.le_of_ble_eq_true rfl⟩
  obtain ⟨hB, hn, hR, hq, I5, I0, I3, I8, I7⟩ := inv_ref hI
  refine lv_iload hx hb dL_law_53 (lv_at hl 6 rfl) ?_
  refine lv_if_eq (tgt := 214) hx hb dL_law_55 (by decide) (fun c55 => ?_) (fun c55 => ?_)
  · -- 55 taken
    exact absurd c55 (by decide)
  · -- 55 on
    rw [show (0 : Int32) = nI 0 from rfl] at c55
    rw [nI_eq (by omega) (by omega)] at c55
    refine lv_aload_n hx hb dL_law_58 rfl (lv_at hl 0 rfl) ?_
    refine lv_iconst (v := nI (1)) hx hb dL_law_59 (by decide) ?_
    refine lv_iload hx hb dL_law_60 (lv_at hl 7 rfl) ?_
    refine lv_sum (x := 1) (d := k) hx hb rfl rfl dL_law_62 ?_
    refine zkD (v := nI (drw L xs (1 + k))) F hP hD hS hA hK hSc hbl hbA 54 (by decide) rfl (c_L_drawn l D cI cZ H.size b L xs (1 + k) hL (by omega)) cl_drawn rfl hl.1 rfl (Nat.le_of_ble_eq_true rfl) dL_law_63 ⟨by show _ ≤ 600086; omega, by show _ ≤ 7301442; omega⟩ (fun H locs hP hD hS => ?_)
    refine W.widen (k := cells + 0) (n := slots + 0) (by omega) (by omega) ?_
    refine lv_istore (lv' := [(8, .int (nI (drw L xs (1 + k)))), (0, .ref (b)), (1, .ref (a 0)), (2, .ref (g 0)), (3, .ref (qm)), (4, .ref (qw)), (5, .int (nI (T))), (6, .int (nI (1))), (7, .int (nI (k)))]) hx hb dL_law_66 hl (by decide) rfl (fun ls hl => ?_)
    refine lv_aload_n hx hb dL_law_68 rfl (lv_at hl 2 rfl) ?_
    refine zkV (v := B 11 0) kL1 (ci := 3) (q0 := 0) F (zL1 hP hD hS hA) hK (c_X3_bills l D cI cZ a H.size B R E (td)) cv_bills rfl rfl (by decide) rfl rfl hl.1 rfl (Nat.le_of_ble_eq_true rfl) dL_law_69 ⟨by show _ ≤ 600086; omega, by show _ ≤ 7301442; omega⟩ (fun H locs hP hD hS => ?_)
    rw [hB]
    refine lv_istore (lv' := [(9, .int (nI (n))), (8, .int (nI (drw L xs (1 + k)))), (0, .ref (b)), (1, .ref (a 0)), (2, .ref (g 0)), (3, .ref (qm)), (4, .ref (qw)), (5, .int (nI (T))), (6, .int (nI (1))), (7, .int (nI (k)))]) hx hb dL_law_72 hl (by decide) rfl (fun ls hl => ?_)
    refine W.widen (k := cells + 0) (n := slots + 0) (by omega) (by omega) ?_
    exact k74 (drw L xs (1 + k)) drw_lt _ _ _ hP hD hS (lv_sub hl [2, 3, 4, 5, 6, 7, 8, 9, 1, 0] rfl)
set_option maxHeartbeats 8000000 in
set_option maxRecDepth 100000 in
theorem lw_b {p : Program} {l : Launch} {e : Env} {s : State} {m : MethodId} {args : Array Value} {below : List Frame} {meth : Method} {c : Code} {Q : State → Prop} {D : va_G} {A : Nat → Prop} {cI cZ : ClassId} {a g : Nat → Nat} {B R E : Nat → Nat → Int32} {td : Int32} {qm qw : Nat} {mm ww : Nat → Int32} {b L : Nat} {xs : Nat → Int32} {H : Heap} {locs : List Loc} {ls : Array Slot} (cells : Nat) (slots : Nat) (n : Nat) (q : Nat) (T : Nat) (k : Nat) (x : Nat) (v : Int32) (B' : Nat → Nat → Int32) (R' : Nat → Nat → Int32) (E' : Nat → Nat → Int32) (td' : Int32) (n' : Nat) (q' : Nat) (mm' : Nat → Int32) (ww' : Nat → Int32) (F : CallFix p m c code 11 s args wsL_law RL) (hK : va_K D vwCl (tyl cI cZ) s) (hA : ∀ q : Nat, s.heap.size ≤ q → A q) (hX : ExB s) (hZ : ExZ A s s.heap) (hfl : l.stackTraces = false) (hSc : va_X b L xs s s.heap) (hbl : b < s.heap.size) (hbA : ¬ A b) (hL : L ≤ 260) (hc1 : cells + 100 ≤ 600086) (hc2 : slots + 700 ≤ 7301442) (hI : Inv B R n q mm ww) (hT : T ≤ 44) (hx9 : x < 2147483648) (ha : actF B R E td n q x = (v, B', R', E', td')) (hJ : Inv B' R' n' q' mm' ww') (hc : (n' = n ∧ mm' = mm ∧ ww' = ww) ∨ (n' = n + 1 ∧ mm' = upd mm n (nI (aAm (x / 16) 9 5000)) ∧ ww' = upd ww n (nI (x / 16 % 2)))) (hP : va_P D vwCl (wLW a g cI cZ B R E (td) B R E (td) qm qw mm ww) H) (hD : va_D A (wLW a g cI cZ B R E (td) B R E (td) qm qw mm ww)) (hS : va_S A s.heap H locs) (hl : lv_has ls 11 [(0, .ref (b)), (1, .ref (a 0)), (2, .ref (g 0)), (3, .ref (qm)), (4, .ref (qw)), (5, .int (nI (T))), (6, .int (nI (1))), (7, .int (nI (k))), (8, .int (nI (x))), (9, .int (nI (n)))])
    (k178 : ∀ (H : Heap) (locs : List Loc) (ls : Array Slot), va_P D vwCl (wLW a g cI cZ B' R' E' (td') B' R' E' (td') qm qw mm' ww') H → va_D A (wLW a g cI cZ B' R' E' (td') B' R' E' (td') qm qw mm' ww') → va_S A s.heap H locs → lv_has ls 11 [(0, .ref (b)), (1, .ref (a 0)), (2, .ref (g 0)), (3, .ref (qm)), (4, .ref (qw)), (5, .int (nI (T))), (6, .int (nI (1))), (7, .int (nI (k)))] → W p l e room_1 s m args below meth c H locs (cells + 90) (slots + 540) Q (F0 m 178 ls [])) :
    W p l e room_1 s m args below meth c H locs (cells + 0) (slots + 0) Q (F0 m 74 ls []) := by
  obtain ⟨hx, hb, hml, hown, hts⟩ := id F
  have cl_refuses : CallB room_1 s args RL 173 yL_refuses cL_refuses 8 (some .boolean) wsL_refuses ({ frames := 9, cells := 44, slots := 264, locals := 184 } : Room) 44 264 2 ∧ (Cond.static yL_refuses).before args s = true := cwS 2 hts gL_law_L_refuses rfl rfl rfl (by decide +kernel) ⟨Nat.le_of_ble_eq_true rfl, Nat.le_of_ble_eq_true rfl⟩
  have cl_act : CallB room_1 s args RL 177 yL_act cL_act 5 (some .int) wsL_act ({ frames := 9, cells := 1, slots := 6, locals := 184 } : Room) 1 6 2 ∧ (Cond.static yL_act).before args s = true := cwS 2 hts gL_law_L_act rfl rfl rfl (by decide +kernel) ⟨Nat.le_of_ble_eq_true rfl, Nat.le_of_ble_eq_true rfl⟩
  have cv_bills : CallW room_1 s args RL RX3 90 yX3_bills cX3_bills 1 (some .int) wsX3_bills ({ frames := 0, cells := 0, slots := 0, locals := 0 } : Room) 0 0 0 := cwV 0 hts gL_law_X3_bills rfl rfl rfl (by decide +kernel) ⟨Nat.le_of_ble_eq_true rfl, Nat.le_of_ble_eq_true rfl⟩
  obtain ⟨hB, hn, hR, hq, I5, I0, I3, I8, I7⟩ := inv_ref hI
  obtain ⟨hB2, hn2, hR2, hq2, J5, J0, J3, J8, J7⟩ := inv_ref hJ
  refine lv_aload_n hx hb dL_law_74 rfl (lv_at hl 2 rfl) ?_
  refine lv_iload hx hb dL_law_75 (lv_at hl 8 rfl) ?_
  refine lv_sipush (v := nI (9973)) hx hb dL_law_77 (by decide) ?_
  refine lv_rem (x := x) (d := 9973) hx hb rfl rfl dL_law_80 (by omega) (by omega) (by omega) ?_
  refine zkN (v := 1) kL2 F (zL2 hP hD hS hA) hK hX hZ (c_L_refuses l hfl D cI cZ H.size g B R E td n q (x % 9973) hB hn hR hq (Nat.mod_lt _ (by decide)) I5 I0 I3 I8) cl_refuses (by decide) rfl rfl hl.1 rfl (Nat.le_of_ble_eq_true rfl) dL_law_81 ⟨by show _ ≤ 600086; omega, by show _ ≤ 7301442; omega⟩ (fun H locs hP hD hS => ?_)
  refine W.widen (k := cells + 44) (n := slots + 264) (by omega) (by omega) ?_
  refine lv_if_eq (tgt := 119) hx hb dL_law_84 (by decide) (fun c84 => ?_) (fun c84 => ?_)
  · -- 84 taken
    exact absurd c84 (by decide)
  · -- 84 on
    refine lv_aload_n hx hb dL_law_87 rfl (lv_at hl 1 rfl) ?_
    refine lv_iload hx hb dL_law_88 (lv_at hl 8 rfl) ?_
    refine zcN (wf := fun (u : Unit) => (wLW a g cI cZ B' R' E' (td') B R E (td) qm qw mm ww)) kL1 F (zL1 hP hD hS hA) hK hX hZ (by have z := c_L_act l hfl D cI cZ H.size a B R E td n q x hB hn hR hq I7 hx9; rw [ha] at z; exact z) cl_act (by decide) (fun _ => rfl) rfl hl.1 rfl (Nat.le_of_ble_eq_true rfl) dL_law_90 ⟨by show _ ≤ 600086; omega, by show _ ≤ 7301442; omega⟩ (fun r90 u H locs hw hP hD hS => ?_)
    have hw90 : r90 = v := hw
    have hP : va_P D vwCl (wLW a g cI cZ B' R' E' (td') B R E (td) qm qw mm ww) H := hP
    have hD : va_D A (wLW a g cI cZ B' R' E' (td') B R E (td) qm qw mm ww) := hD
    refine W.widen (k := cells + 45) (n := slots + 270) (by omega) (by omega) ?_
    refine lv_aload_n hx hb dL_law_93 rfl (lv_at hl 2 rfl) ?_
    refine lv_iload hx hb dL_law_94 (lv_at hl 8 rfl) ?_
    refine zcN (wf := fun (u : Unit) => (wLW a g cI cZ B' R' E' (td') B' R' E' (td') qm qw mm ww)) kL2 F (zL2 hP hD hS hA) hK hX hZ (by have z := c_L_act l hfl D cI cZ H.size g B R E td n q x hB hn hR hq I7 hx9; rw [ha] at z; exact z) cl_act (by decide) (fun _ => rfl) rfl hl.1 rfl (Nat.le_of_ble_eq_true rfl) dL_law_96 ⟨by show _ ≤ 600086; omega, by show _ ≤ 7301442; omega⟩ (fun r96 u H locs hw hP hD hS => ?_)
    have hw96 : r96 = v := hw
    have hP : va_P D vwCl (wLW a g cI cZ B' R' E' (td') B' R' E' (td') qm qw mm ww) H := hP
    have hD : va_D A (wLW a g cI cZ B' R' E' (td') B' R' E' (td') qm qw mm ww) := hD
    refine W.widen (k := cells + 46) (n := slots + 276) (by omega) (by omega) ?_
    refine lv_icmp_ne (tgt := 119) hx hb dL_law_99 (by decide) (fun c99 => ?_) (fun c99 => ?_)
    · -- 99 taken
      exact absurd (hw90.trans hw96.symm) c99
    · -- 99 on
      refine lv_aload_n hx hb dL_law_102 rfl (lv_at hl 2 rfl) ?_
      refine lv_iload hx hb dL_law_103 (lv_at hl 8 rfl) ?_
      refine lv_sipush (v := nI (499)) hx hb dL_law_105 (by decide) ?_
      refine lv_rem (x := x) (d := 499) hx hb rfl rfl dL_law_108 (by omega) (by omega) (by omega) ?_
      refine zkN (v := 1) kL2 F (zL2 hP hD hS hA) hK hX hZ (c_L_refuses l hfl D cI cZ H.size g B' R' E' td' n' q' (x % 499) hB2 hn2 hR2 hq2 (by omega) J5 J0 J3 J8) cl_refuses (by decide) rfl rfl hl.1 rfl (Nat.le_of_ble_eq_true rfl) dL_law_109 ⟨by show _ ≤ 600086; omega, by show _ ≤ 7301442; omega⟩ (fun H locs hP hD hS => ?_)
      refine W.widen (k := cells + 90) (n := slots + 540) (by omega) (by omega) ?_
      refine lv_if_eq (tgt := 119) hx hb dL_law_112 (by decide) (fun c112 => ?_) (fun c112 => ?_)
      · -- 112 taken
        exact absurd c112 (by decide)
      · -- 112 on
        refine lv_iconst (v := nI (1)) hx hb dL_law_115 (by decide) ?_
        refine lv_goto (tgt := 120) hx hb dL_law_116 (by decide) ?_
        refine lv_istore (lv' := [(6, .int (nI (1))), (0, .ref (b)), (1, .ref (a 0)), (2, .ref (g 0)), (3, .ref (qm)), (4, .ref (qw)), (5, .int (nI (T))), (7, .int (nI (k))), (8, .int (nI (x))), (9, .int (nI (n)))]) hx hb dL_law_120 hl (by decide) rfl (fun ls hl => ?_)
        refine lv_iload hx hb dL_law_122 (lv_at hl 0 rfl) ?_
        refine lv_if_eq (tgt := 178) hx hb dL_law_124 (by decide) (fun c124 => ?_) (fun c124 => ?_)
        · -- 124 taken
          exact absurd c124 (by decide)
        · -- 124 on
          rw [show (0 : Int32) = nI 0 from rfl] at c124
          rw [nI_eq (by omega) (by omega)] at c124
          refine lv_aload_n hx hb dL_law_127 rfl (lv_at hl 2 rfl) ?_
          refine zkV (v := B' 11 0) kL1 (ci := 3) (q0 := 0) F (zL1 hP hD hS hA) hK (c_X3_bills l D cI cZ a H.size B' R' E' (td')) cv_bills rfl rfl (by decide) rfl rfl hl.1 rfl (Nat.le_of_ble_eq_true rfl) dL_law_128 ⟨by show _ ≤ 600086; omega, by show _ ≤ 7301442; omega⟩ (fun H locs hP hD hS => ?_)
          rw [hB2]
          refine lv_iload hx hb dL_law_131 (lv_at hl 9 rfl) ?_
          refine lv_icmp_le (tgt := 178) hx hb dL_law_133 (by decide) (fun c133 => ?_) (fun c133 => ?_)
          · -- 133 taken
            rw [nI_leI (by omega) (by omega)] at c133
            obtain ⟨e1, e2, e3⟩ : n' = n ∧ mm' = mm ∧ ww' = ww := hc.elim id (fun z => absurd z.1 (by omega))
            have hP : va_P D vwCl (wLW a g cI cZ B' R' E' (td') B' R' E' (td') qm qw mm' ww') H := by rw [e2, e3]; exact hP
            have hD : va_D A (wLW a g cI cZ B' R' E' (td') B' R' E' (td') qm qw mm' ww') := by rw [e2, e3]; exact hD
            refine W.widen (k := cells + 90) (n := slots + 540) (by omega) (by omega) ?_
            exact k178  _ _ _ hP hD hS (lv_sub hl [1, 2, 3, 4, 5, 6, 0, 7] rfl)
          · -- 133 on
            rw [nI_leI (by omega) (by omega)] at c133
            refine lv_iload hx hb dL_law_136 (lv_at hl 8 rfl) ?_
            refine lv_bipush (v := nI (16)) hx hb dL_law_138 (by decide) ?_
            refine lv_quo (x := x) (d := 16) hx hb rfl rfl dL_law_140 (by omega) (by omega) (by omega) ?_
            refine lv_istore (lv' := [(10, .int (nI (x / 16))), (6, .int (nI (1))), (0, .ref (b)), (1, .ref (a 0)), (2, .ref (g 0)), (3, .ref (qm)), (4, .ref (qw)), (5, .int (nI (T))), (7, .int (nI (k))), (8, .int (nI (x))), (9, .int (nI (n)))]) hx hb dL_law_141 hl (by decide) rfl (fun ls hl => ?_)
            have hn3 : n < 40 := by omega
            refine lv_aload_n hx hb dL_law_143 rfl (lv_at hl 5 rfl) ?_
            refine lv_iload hx hb dL_law_144 (lv_at hl 10 rfl) ?_
            refine lv_iconst (v := nI (1)) hx hb dL_law_146 (by decide) ?_
            refine lv_iload hx hb dL_law_147 (lv_at hl 0 rfl) ?_
            refine lv_iconst (v := nI (2)) hx hb dL_law_149 (by decide) ?_
            refine lv_quo (x := x / 16) (d := 2) hx hb rfl rfl dL_law_150 (by omega) (by omega) (by omega) ?_
            refine lv_iload hx hb dL_law_151 (lv_at hl 0 rfl) ?_
            refine lv_iconst (v := nI (3)) hx hb dL_law_153 (by decide) ?_
            refine lv_rem (x := x / 16) (d := 3) hx hb rfl rfl dL_law_154 (by omega) (by omega) (by omega) ?_
            refine lv_if_ne (tgt := 163) hx hb dL_law_155 (by decide) (fun c155 => ?_) (fun c155 => ?_)
            · -- 155 taken
              rw [show (0 : Int32) = nI 0 from rfl] at c155
              rw [nI_eq (by omega) (by omega)] at c155
              refine lv_sipush (v := nI (5000)) hx hb dL_law_163 (by decide) ?_
              refine lv_rem (x := (x / 16) / (2)) (d := 5000) hx hb rfl rfl dL_law_166 (by omega) (by omega) (by omega) ?_
              refine lv_sum (x := 1) (d := ((x / 16) / (2)) % (5000)) hx hb rfl rfl dL_law_167 ?_
              refine zast hx hb hK hP hD hS 52 (n := 40) (f := mm) rfl (n) rfl (by omega) (by decide) (wLW a g cI cZ B' R' E' (td') B' R' E' (td') qm qw (upd mm (n) (nI ((1) + (((x / 16) / (2)) % (5000))))) ww) rfl dL_law_168 (fun H locs hP hD hS => ?_)
              refine lv_aload hx hb dL_law_169 (lv_at hl 6 rfl) ?_
              refine lv_iload hx hb dL_law_171 (lv_at hl 10 rfl) ?_
              refine lv_iload hx hb dL_law_173 (lv_at hl 0 rfl) ?_
              refine lv_iconst (v := nI (2)) hx hb dL_law_175 (by decide) ?_
              refine lv_rem (x := x / 16) (d := 2) hx hb rfl rfl dL_law_176 (by omega) (by omega) (by omega) ?_
              refine zast hx hb hK hP hD hS 53 (n := 40) (f := ww) rfl (n) rfl (by omega) (by decide) (wLW a g cI cZ B' R' E' (td') B' R' E' (td') qm qw (upd mm (n) (nI ((1) + (((x / 16) / (2)) % (5000))))) (upd ww (n) (nI ((x / 16) % (2))))) rfl dL_law_177 (fun H locs hP hD hS => ?_)
              obtain ⟨e1, e2, e3⟩ : n' = n + 1 ∧ mm' = upd mm n (nI (aAm (x / 16) 9 5000)) ∧ ww' = upd ww n (nI (x / 16 % 2)) := hc.elim (fun z => absurd z.1 (by omega)) id
              have hP : va_P D vwCl (wLW a g cI cZ B' R' E' (td') B' R' E' (td') qm qw mm' ww') H := by rw [e2, e3]; unfold aAm; rw [if_neg c155]; exact hP
              have hD : va_D A (wLW a g cI cZ B' R' E' (td') B' R' E' (td') qm qw mm' ww') := by rw [e2, e3]; unfold aAm; rw [if_neg c155]; exact hD
              refine W.widen (k := cells + 90) (n := slots + 540) (by omega) (by omega) ?_
              exact k178  _ _ _ hP hD hS (lv_sub hl [2, 3, 4, 5, 6, 7, 1, 8] rfl)
            · -- 155 on
              rw [show (0 : Int32) = nI 0 from rfl] at c155
              rw [nI_eq (by omega) (by omega)] at c155
              refine lv_bipush (v := nI (9)) hx hb dL_law_158 (by decide) ?_
              refine lv_goto (tgt := 166) hx hb dL_law_160 (by decide) ?_
              refine lv_rem (x := (x / 16) / (2)) (d := 9) hx hb rfl rfl dL_law_166 (by omega) (by omega) (by omega) ?_
              refine lv_sum (x := 1) (d := ((x / 16) / (2)) % (9)) hx hb rfl rfl dL_law_167 ?_
              refine zast hx hb hK hP hD hS 52 (n := 40) (f := mm) rfl (n) rfl (by omega) (by decide) (wLW a g cI cZ B' R' E' (td') B' R' E' (td') qm qw (upd mm (n) (nI ((1) + (((x / 16) / (2)) % (9))))) ww) rfl dL_law_168 (fun H locs hP hD hS => ?_)
              refine lv_aload hx hb dL_law_169 (lv_at hl 6 rfl) ?_
              refine lv_iload hx hb dL_law_171 (lv_at hl 10 rfl) ?_
              refine lv_iload hx hb dL_law_173 (lv_at hl 0 rfl) ?_
              refine lv_iconst (v := nI (2)) hx hb dL_law_175 (by decide) ?_
              refine lv_rem (x := x / 16) (d := 2) hx hb rfl rfl dL_law_176 (by omega) (by omega) (by omega) ?_
              refine zast hx hb hK hP hD hS 53 (n := 40) (f := ww) rfl (n) rfl (by omega) (by decide) (wLW a g cI cZ B' R' E' (td') B' R' E' (td') qm qw (upd mm (n) (nI ((1) + (((x / 16) / (2)) % (9))))) (upd ww (n) (nI ((x / 16) % (2))))) rfl dL_law_177 (fun H locs hP hD hS => ?_)
              obtain ⟨e1, e2, e3⟩ : n' = n + 1 ∧ mm' = upd mm n (nI (aAm (x / 16) 9 5000)) ∧ ww' = upd ww n (nI (x / 16 % 2)) := hc.elim (fun z => absurd z.1 (by omega)) id
              have hP : va_P D vwCl (wLW a g cI cZ B' R' E' (td') B' R' E' (td') qm qw mm' ww') H := by rw [e2, e3]; unfold aAm; rw [if_pos c155]; exact hP
              have hD : va_D A (wLW a g cI cZ B' R' E' (td') B' R' E' (td') qm qw mm' ww') := by rw [e2, e3]; unfold aAm; rw [if_pos c155]; exact hD
              refine W.widen (k := cells + 90) (n := slots + 540) (by omega) (by omega) ?_
              exact k178  _ _ _ hP hD hS (lv_sub hl [2, 3, 4, 5, 6, 7, 1, 8] rfl)
set_option maxHeartbeats 8000000 in
set_option maxRecDepth 100000 in
theorem lw_c {p : Program} {l : Launch} {e : Env} {s : State} {m : MethodId} {args : Array Value} {below : List Frame} {meth : Method} {c : Code} {Q : State → Prop} {D : va_G} {A : Nat → Prop} {cI cZ : ClassId} {a g : Nat → Nat} {B R E : Nat → Nat → Int32} {td : Int32} {qm qw : Nat} {mm ww : Nat → Int32} {b L : Nat} {xs : Nat → Int32} {H : Heap} {locs : List Loc} {ls : Array Slot} (cells : Nat) (slots : Nat) (n : Nat) (q : Nat) (T : Nat) (k : Nat) (F : CallFix p m c code 11 s args wsL_law RL) (hK : va_K D vwCl (tyl cI cZ) s) (hA : ∀ q : Nat, s.heap.size ≤ q → A q) (hX : ExB s) (hZ : ExZ A s s.heap) (hfl : l.stackTraces = false) (hSc : va_X b L xs s s.heap) (hbl : b < s.heap.size) (hbA : ¬ A b) (hL : L ≤ 260) (hc1 : cells + 100 ≤ 600086) (hc2 : slots + 700 ≤ 7301442) (hI : Inv B R n q mm ww) (hT : T ≤ 44) (hP : va_P D vwCl (wLW a g cI cZ B R E (td) B R E (td) qm qw mm ww) H) (hD : va_D A (wLW a g cI cZ B R E (td) B R E (td) qm qw mm ww)) (hS : va_S A s.heap H locs) (hl : lv_has ls 11 [(0, .ref (b)), (1, .ref (a 0)), (2, .ref (g 0)), (3, .ref (qm)), (4, .ref (qw)), (5, .int (nI (T))), (6, .int (nI (1))), (7, .int (nI (k)))])
    (k46 : ∀ (H : Heap) (locs : List Loc) (ls : Array Slot), va_P D vwCl (wLW a g cI cZ B R E (td) B R E (td) qm qw mm ww) H → va_D A (wLW a g cI cZ B R E (td) B R E (td) qm qw mm ww) → va_S A s.heap H locs → lv_has ls 11 [(0, .ref (b)), (1, .ref (a 0)), (2, .ref (g 0)), (3, .ref (qm)), (4, .ref (qw)), (5, .int (nI (T))), (6, .int (nI (1))), (7, .int (nI (k + 1)))] → W p l e room_1 s m args below meth c H locs (cells + 0) (slots + 0) Q (F0 m 46 ls [])) :
    W p l e room_1 s m args below meth c H locs (cells + 0) (slots + 0) Q (F0 m 178 ls []) := by
  obtain ⟨hx, hb, hml, hown, hts⟩ := id F
  have cl_alike : CallB room_1 s args RL 180 yL_alike cL_alike 4 (some .boolean) wsL_alike ({ frames := 9, cells := 0, slots := 0, locals := 190 } : Room) 0 0 2 ∧ (Cond.static yL_alike).before args s = true := cwS 2 hts gL_law_L_alike rfl rfl rfl (by decide +kernel) ⟨Nat.le_of_ble_eq_true rfl, Nat.le_of_ble_eq_true rfl⟩
  have cl_holds : CallB room_1 s args RL 184 yL_holds cL_holds 10 (some .boolean) wsL_holds ({ frames := 9, cells := 0, slots := 0, locals := 190 } : Room) 0 0 3 ∧ (Cond.static yL_holds).before args s = true := cwS 3 hts gL_law_L_holds rfl rfl rfl (by decide +kernel) ⟨Nat.le_of_ble_eq_true rfl, Nat.le_of_ble_eq_true rfl⟩
  obtain ⟨hB, hn, hR, hq, I5, I0, I3, I8, I7⟩ := inv_ref hI
  obtain ⟨P1, P2, P3, P4, P5, P6, P7⟩ := inv_holds (td := td) hI
  refine lv_iload hx hb dL_law_178 (lv_at hl 6 rfl) ?_
  refine lv_if_eq (tgt := 205) hx hb dL_law_180 (by decide) (fun c180 => ?_) (fun c180 => ?_)
  · -- 180 taken
    exact absurd c180 (by decide)
  · -- 180 on
    rw [show (0 : Int32) = nI 0 from rfl] at c180
    rw [nI_eq (by omega) (by omega)] at c180
    refine lv_aload_n hx hb dL_law_183 rfl (lv_at hl 1 rfl) ?_
    refine lv_aload_n hx hb dL_law_184 rfl (lv_at hl 2 rfl) ?_
    refine zkN (v := 1) kL3 F (zL3 hP hD hS hA) hK hX hZ (c_L_alike l hfl D cI cZ H.size a g B R E td n q hB hn hR hq) cl_alike (by decide) rfl rfl hl.1 rfl (Nat.le_of_ble_eq_true rfl) dL_law_185 ⟨by show _ ≤ 600086; omega, by show _ ≤ 7301442; omega⟩ (fun H locs hP hD hS => ?_)
    refine W.widen (k := cells + 0) (n := slots + 0) (by omega) (by omega) ?_
    refine lv_if_eq (tgt := 205) hx hb dL_law_188 (by decide) (fun c188 => ?_) (fun c188 => ?_)
    · -- 188 taken
      exact absurd c188 (by decide)
    · -- 188 on
      refine lv_aload_n hx hb dL_law_191 rfl (lv_at hl 2 rfl) ?_
      refine lv_aload_n hx hb dL_law_192 rfl (lv_at hl 3 rfl) ?_
      refine lv_aload hx hb dL_law_193 (lv_at hl 4 rfl) ?_
      refine zkN (v := 1) kL4 F (zL4 hP hD hS hA) hK hX hZ (c_L_holds l hfl D cI cZ H.size g B R E td qm qw mm ww n q hB hn hR hq I5 P1 P2 P3 P4 P5 P6 P7) cl_holds (by decide) rfl rfl hl.1 rfl (Nat.le_of_ble_eq_true rfl) dL_law_195 ⟨by show _ ≤ 600086; omega, by show _ ≤ 7301442; omega⟩ (fun H locs hP hD hS => ?_)
      refine W.widen (k := cells + 0) (n := slots + 0) (by omega) (by omega) ?_
      refine lv_if_eq (tgt := 205) hx hb dL_law_198 (by decide) (fun c198 => ?_) (fun c198 => ?_)
      · -- 198 taken
        exact absurd c198 (by decide)
      · -- 198 on
        refine lv_iconst (v := nI (1)) hx hb dL_law_201 (by decide) ?_
        refine lv_goto (tgt := 206) hx hb dL_law_202 (by decide) ?_
        refine lv_istore (lv' := [(6, .int (nI (1))), (0, .ref (b)), (1, .ref (a 0)), (2, .ref (g 0)), (3, .ref (qm)), (4, .ref (qw)), (5, .int (nI (T))), (7, .int (nI (k)))]) hx hb dL_law_206 hl (by decide) rfl (fun ls hl => ?_)
        refine lv_iinc (v := nI (k + 1)) (lv' := [(7, .int (nI (k + 1))), (6, .int (nI (1))), (0, .ref (b)), (1, .ref (a 0)), (2, .ref (g 0)), (3, .ref (qm)), (4, .ref (qw)), (5, .int (nI (T)))]) hx hb dL_law_208 hl (k := 7) rfl (nI_1 _) (by decide) rfl (fun ls hl => ?_)
        refine lv_goto (tgt := 46) hx hb dL_law_211 (by decide) ?_
        refine W.widen (k := cells + 0) (n := slots + 0) (by omega) (by omega) ?_
        exact k46  _ _ _ hP hD hS (lv_sub hl [2, 3, 4, 5, 6, 7, 1, 0] rfl)
set_option maxHeartbeats 8000000 in
set_option maxRecDepth 100000 in
theorem lw_d {p : Program} {l : Launch} {e : Env} {s : State} {m : MethodId} {args : Array Value} {below : List Frame} {meth : Method} {c : Code} {Q : State → Prop} {D : va_G} {A : Nat → Prop} {cI cZ : ClassId} {a g : Nat → Nat} {B R E : Nat → Nat → Int32} {td : Int32} {qm qw : Nat} {mm ww : Nat → Int32} {b L : Nat} {xs : Nat → Int32} {H : Heap} {locs : List Loc} {ls : Array Slot} (cells : Nat) (slots : Nat) (n : Nat) (q : Nat) (T : Nat) (k : Nat) (F : CallFix p m c code 11 s args wsL_law RL) (hK : va_K D vwCl (tyl cI cZ) s) (hA : ∀ q : Nat, s.heap.size ≤ q → A q) (hX : ExB s) (hZ : ExZ A s s.heap) (hfl : l.stackTraces = false) (hSc : va_X b L xs s s.heap) (hbl : b < s.heap.size) (hbA : ¬ A b) (hL : L ≤ 260) (hc1 : cells + 100 ≤ 600086) (hc2 : slots + 700 ≤ 7301442) (hI : Inv B R n q mm ww) (hT : T ≤ 44) (hP : va_P D vwCl (wLW a g cI cZ B R E (td) B R E (td) qm qw mm ww) H) (hD : va_D A (wLW a g cI cZ B R E (td) B R E (td) qm qw mm ww)) (hS : va_S A s.heap H locs) (hl : lv_has ls 11 [(0, .ref (b)), (1, .ref (a 0)), (2, .ref (g 0)), (3, .ref (qm)), (4, .ref (qw)), (5, .int (nI (T))), (6, .int (nI (1)))])
    (k262 : ∀ (B2 : Nat → Nat → Int32) (R2 : Nat → Nat → Int32) (E2 : Nat → Nat → Int32) (H : Heap) (locs : List Loc) (ls : Array Slot), va_P D vwCl (wLW a g cI cZ B2 R2 E2 (td) B R E (td) qm qw mm ww) H → va_D A (wLW a g cI cZ B2 R2 E2 (td) B R E (td) qm qw mm ww) → va_S A s.heap H locs → lv_has ls 11 [(0, .ref (b)), (1, .ref (a 0)), (2, .ref (g 0)), (3, .ref (qm)), (4, .ref (qw))] → W p l e room_1 s m args below meth c H locs (cells + 2) (slots + 80) Q (F0 m 262 ls [.int (nI (1))])) :
    W p l e room_1 s m args below meth c H locs (cells + 0) (slots + 0) Q (F0 m 214 ls []) := by
  obtain ⟨hx, hb, hml, hown, hts⟩ := id F
  have cl_drawn : CallB room_1 s args RL 169 yL_drawn cL_drawn 2 (some .int) wsL_drawn ({ frames := 0, cells := 0, slots := 0, locals := 0 } : Room) 0 0 2 ∧ (Cond.static yL_drawn).before args s = true := cwS 2 hts gL_law_L_drawn rfl rfl rfl (by decide +kernel) ⟨Nat.le_of_ble_eq_true rfl, Nat.le_of_ble_eq_true rfl⟩
  have cl_comesAndGoes : CallB room_1 s args RL 188 yL_comesAndGoes cL_comesAndGoes 13 (some .boolean) wsL_comesAndGoes ({ frames := 9, cells := 1, slots := 40, locals := 184 } : Room) 1 40 2 ∧ (Cond.static yL_comesAndGoes).before args s = true := cwS 2 hts gL_law_L_comesAndGoes rfl rfl rfl (by decide +kernel) ⟨Nat.le_of_ble_eq_true rfl, Nat.le_of_ble_eq_true rfl⟩
  have cl_holds : CallB room_1 s args RL 184 yL_holds cL_holds 10 (some .boolean) wsL_holds ({ frames := 9, cells := 0, slots := 0, locals := 190 } : Room) 0 0 3 ∧ (Cond.static yL_holds).before args s = true := cwS 3 hts gL_law_L_holds rfl rfl rfl (by decide +kernel) ⟨Nat.le_of_ble_eq_true rfl, Nat.le_of_ble_eq_true rfl⟩
  have h0 := inv_ref hI
  have hd0 := @drw_lt L xs 0
  refine lv_iload hx hb dL_law_214 (lv_at hl 6 rfl) ?_
  refine lv_if_eq (tgt := 261) hx hb dL_law_216 (by decide) (fun c216 => ?_) (fun c216 => ?_)
  · -- 216 taken
    exact absurd c216 (by decide)
  · -- 216 on
    rw [show (0 : Int32) = nI 0 from rfl] at c216
    rw [nI_eq (by omega) (by omega)] at c216
    refine lv_aload_n hx hb dL_law_219 rfl (lv_at hl 1 rfl) ?_
    refine lv_aload_n hx hb dL_law_220 rfl (lv_at hl 0 rfl) ?_
    refine lv_iconst (v := nI (0)) hx hb dL_law_221 (by decide) ?_
    refine zkD (v := nI (drw L xs (0))) F hP hD hS hA hK hSc hbl hbA 54 (by decide) rfl (c_L_drawn l D cI cZ H.size b L xs (0) hL (by omega)) cl_drawn rfl hl.1 rfl (Nat.le_of_ble_eq_true rfl) dL_law_222 ⟨by show _ ≤ 600086; omega, by show _ ≤ 7301442; omega⟩ (fun H locs hP hD hS => ?_)
    refine W.widen (k := cells + 0) (n := slots + 0) (by omega) (by omega) ?_
    refine lv_bipush (v := nI (31)) hx hb dL_law_225 (by decide) ?_
    refine lv_quo (x := drw L xs (0)) (d := 31) hx hb rfl rfl dL_law_227 (by omega) (by omega) (by omega) ?_
    refine zcN (wf := fun (u : (Nat → Nat → Int32) × (Nat → Nat → Int32) × (Nat → Nat → Int32)) => (wLW a g cI cZ u.1 u.2.1 u.2.2 (td) B R E (td) qm qw mm ww)) kL1 F (zL1 hP hD hS hA) hK hX hZ (c_L_comesAndGoes l hfl D cI cZ H.size a B R E td n q ((drw L xs (0)) / (31)) h0.2.1 h0.1 h0.2.2.1 h0.2.2.2.1 (by have := @drw_lt L xs 0; have := @drw_lt L xs 46; omega) (fun hz => inv_cag hI hz)) cl_comesAndGoes (by decide) (fun _ => rfl) rfl hl.1 rfl (Nat.le_of_ble_eq_true rfl) dL_law_228 ⟨by show _ ≤ 600086; omega, by show _ ≤ 7301442; omega⟩ (fun r228 u H locs hw hP hD hS => ?_)
    obtain ⟨hw1, hw2⟩ := hw
    subst hw1
    obtain ⟨B1, R1, E1⟩ := u
    obtain ⟨q1, hI1⟩ := inv_cgend hI hw2
    have hP : va_P D vwCl (wLW a g cI cZ B1 R1 E1 (td) B R E (td) qm qw mm ww) H := hP
    have hD : va_D A (wLW a g cI cZ B1 R1 E1 (td) B R E (td) qm qw mm ww) := hD
    refine W.widen (k := cells + 1) (n := slots + 40) (by omega) (by omega) ?_
    have h1 := inv_ref hI1
    refine lv_if_eq (tgt := 261) hx hb dL_law_231 (by decide) (fun c231 => ?_) (fun c231 => ?_)
    · -- 231 taken
      exact absurd c231 (by decide)
    · -- 231 on
      refine lv_aload_n hx hb dL_law_234 rfl (lv_at hl 1 rfl) ?_
      refine lv_aload_n hx hb dL_law_235 rfl (lv_at hl 0 rfl) ?_
      refine lv_bipush (v := nI (46)) hx hb dL_law_236 (by decide) ?_
      refine zkD (v := nI (drw L xs (46))) F hP hD hS hA hK hSc hbl hbA 54 (by decide) rfl (c_L_drawn l D cI cZ H.size b L xs (46) hL (by omega)) cl_drawn rfl hl.1 rfl (Nat.le_of_ble_eq_true rfl) dL_law_238 ⟨by show _ ≤ 600086; omega, by show _ ≤ 7301442; omega⟩ (fun H locs hP hD hS => ?_)
      refine W.widen (k := cells + 1) (n := slots + 40) (by omega) (by omega) ?_
      refine zcN (wf := fun (u : (Nat → Nat → Int32) × (Nat → Nat → Int32) × (Nat → Nat → Int32)) => (wLW a g cI cZ u.1 u.2.1 u.2.2 (td) B R E (td) qm qw mm ww)) kL1 F (zL1 hP hD hS hA) hK hX hZ (c_L_comesAndGoes l hfl D cI cZ H.size a B1 R1 E1 td n q1 (drw L xs (46)) h1.2.1 h1.1 h1.2.2.1 h1.2.2.2.1 (by have := @drw_lt L xs 0; have := @drw_lt L xs 46; omega) (fun hz => inv_cag hI1 hz)) cl_comesAndGoes (by decide) (fun _ => rfl) rfl hl.1 rfl (Nat.le_of_ble_eq_true rfl) dL_law_241 ⟨by show _ ≤ 600086; omega, by show _ ≤ 7301442; omega⟩ (fun r241 u H locs hw hP hD hS => ?_)
      obtain ⟨hw1, hw2⟩ := hw
      subst hw1
      obtain ⟨B2, R2, E2⟩ := u
      obtain ⟨q2, hI2⟩ := inv_cgend hI1 hw2
      have hP : va_P D vwCl (wLW a g cI cZ B2 R2 E2 (td) B R E (td) qm qw mm ww) H := hP
      have hD : va_D A (wLW a g cI cZ B2 R2 E2 (td) B R E (td) qm qw mm ww) := hD
      refine W.widen (k := cells + 2) (n := slots + 80) (by omega) (by omega) ?_
      obtain ⟨hB, hn, hR, hq, I5, I0, I3, I8, I7⟩ := inv_ref hI2
      obtain ⟨P1, P2, P3, P4, P5, P6, P7⟩ := inv_holds (td := td) hI2
      refine lv_if_eq (tgt := 261) hx hb dL_law_244 (by decide) (fun c244 => ?_) (fun c244 => ?_)
      · -- 244 taken
        exact absurd c244 (by decide)
      · -- 244 on
        refine lv_aload_n hx hb dL_law_247 rfl (lv_at hl 1 rfl) ?_
        refine lv_aload_n hx hb dL_law_248 rfl (lv_at hl 3 rfl) ?_
        refine lv_aload hx hb dL_law_249 (lv_at hl 4 rfl) ?_
        refine zkN (v := 1) kL5 F (zL5 hP hD hS hA) hK hX hZ (c_L_holds l hfl D cI cZ H.size a B2 R2 E2 td qm qw mm ww n q2 hB hn hR hq I5 P1 P2 P3 P4 P5 P6 P7) cl_holds (by decide) rfl rfl hl.1 rfl (Nat.le_of_ble_eq_true rfl) dL_law_251 ⟨by show _ ≤ 600086; omega, by show _ ≤ 7301442; omega⟩ (fun H locs hP hD hS => ?_)
        refine W.widen (k := cells + 2) (n := slots + 80) (by omega) (by omega) ?_
        refine lv_if_eq (tgt := 261) hx hb dL_law_254 (by decide) (fun c254 => ?_) (fun c254 => ?_)
        · -- 254 taken
          exact absurd c254 (by decide)
        · -- 254 on
          refine lv_iconst (v := nI (1)) hx hb dL_law_257 (by decide) ?_
          refine lv_goto (tgt := 262) hx hb dL_law_258 (by decide) ?_
          refine W.widen (k := cells + 2) (n := slots + 80) (by omega) (by omega) ?_
          exact k262 _ _ _ _ _ _ hP hD hS (lv_sub hl [0, 1, 2, 3, 4] rfl)
