theorem stfK_0i {cu sm pl : Int32} (hk : stfK cu sm pl = 0) : ¬ cu < 0 ∧ cu < 8 ∧ 1 ≤ sm ∧ ∃ j, j < 3 ∧ pl = nI j := by
  unfold stfK at hk
  split at hk
  · cases hk
  · rename_i z
    split at hk
    · cases hk
    · rename_i y
      refine ⟨fun w => z (Or.inl (Or.inl w)), Classical.not_not.mp fun w => z (Or.inl (Or.inr w)), leI.mpr (fb_nl y i1), ?_⟩
      exact ix_of (n := 3) (by omega) (fun w => z (Or.inr (Or.inl w))) (Classical.not_not.mp fun w => z (Or.inr (Or.inr w)))
section LWB
variable {p : Program} {l : Launch} {e : Env} {R : Room} {s : State} {m : MethodId} {args : Array Value} {below : List Frame} {meth : Method} {c : Code} {H : Heap} {locs : List Loc} {cells slots : Nat} {Q : State → Prop}
variable {ls : Array Slot} {D : va_G} {A : Nat → Prop} {a g : Nat → Nat} {cI cZ cL : ClassId} {B C E M : Nat → Nat → Int32} {td : Int32} {oo : Nat → Int64} {b L i tt n q : Nat} {xs : Nat → Int32}
/-- a truth value of an int of the script -/
theorem arg_bl {pc : Nat} {x : Int32} {rest : List Value} (hx : p.tables.exec = Jvm.exec) (hb : c.code = cL_law) (d0 : decode cL_law pc = .ok (.ifCond .eq 7, 3)) (d3 : decode cL_law (pc + 3) = .ok (.iconst 1, 1)) (d4 : decode cL_law (pc + 4) = .ok (.goto 4, 3)) (d7 : decode cL_law (pc + 7) = .ok (.iconst 0, 1))
    (kk : W p l e R s m args below meth c H locs cells slots Q (F0 m (pc + 8) ls (.int (b2 (¬ x = 0)) :: rest))) : W p l e R s m args below meth c H locs cells slots Q (F0 m pc ls (.int x :: rest)) := by
  refine lv_if_eq (tgt := pc + 7) hx hb d0 (by omega) (fun z => ?_) (fun z => ?_)
  · refine lv_iconst (v := 0) hx hb d7 (by decide) ?_
    rw [show b2 (¬ x = 0) = 0 from if_neg (fun w => w z)] at kk
    exact kk
  · refine lv_iconst (v := 1) hx hb d3 (by decide) ?_
    rw [show b2 (¬ x = 0) = 1 from if_pos z] at kk
    exact lv_goto (tgt := pc + 8) hx hb d4 (by omega) kk
set_option maxHeartbeats 4000000 in
set_option maxRecDepth 100000 in
theorem lc_settle (F : LwF p l R s m args c D A cI cZ cL b L xs) (S : LwS s D A a g cI cZ cL b i tt n q B C E td oo M H locs ls) (hi : i + 6 ≤ L) (ht : tt ≤ 1000) (hcs : cells + 1 ≤ 1086 ∧ slots + 6 ≤ 14466)
    (kk : LwK p l e R s m args below meth c Q D A a g cI cZ cL b i tt cells slots) : W p l e R s m args below meth c H locs cells slots Q (F0 m 588 ls []) := by
  obtain ⟨hx, hb, hml, hown, hts, hK3, hA, hSc, hbl, hbA, hX, hZ, hfl, hL, rfl⟩ := F
  obtain ⟨h, hP, hD, hS, hl⟩ := S
  have hK : va_K D vwCl (tyl cI cZ) s := hK3.sub (tys' := tyl cI cZ) [0, 1] rfl
  have hB : B 11 0 = nI n := h.1.1.1
  have hM : M 2 0 = nI n := h.1.1.2.1
  have hn : n ≤ 40 := h.1.1.2.2.1
  have hC : C 8 0 = nI q := h.1.2.2.1.1
  have hMq : M 15 0 = nI q := h.1.2.2.1.2.1
  have hq : q ≤ 30 := h.1.2.2.1.2.2.1
  have hso : ∀ i j, i ≤ j → j < n → M 6 i ≤ M 6 j := h.1.1.2.2.2.2.2.2.2.1
  have hs0 : ∀ i, i < n → 0 ≤ M 6 i := fun i hi => leI.mpr (by rw [i0]; exact (h.1.1.2.2.2.2.2.2.1 i hi).2.2.2.2.2.2.2.2.2.1)
  refine lv_aload_n hx hb dL_law_588 rfl (lv_at hl 1 rfl) ?_
  refine arg_ld hx hb hl 0 4 rfl rfl 1 hi hL hSc hbl hbA hS (by decide) rfl dL_law_589 dL_law_590 dL_law_592 rfl dL_law_593 dL_law_594 ?_
  refine arg_ld hx hb hl 0 4 rfl rfl 2 hi hL hSc hbl hbA hS (by decide) rfl dL_law_595 dL_law_596 dL_law_598 rfl dL_law_599 dL_law_600 ?_
  refine arg_bl hx hb dL_law_601 dL_law_604 dL_law_605 dL_law_608 ?_
  refine lv_aload_n hx hb dL_law_609 rfl (lv_at hl 3 rfl) ?_
  by_cases hk : stlK B (xs (i + 1)) = 0
  · obtain ⟨rc, hrc, e1, k8⟩ := stlK_0i h.1 hk
    have h1 := sim_stl (zz := (b2 (¬ (xs (i + 2)) = 0))) h hrc
    have h' := rl_t (tt' := tt + 1) h1 (Nat.le_succ _)
    rw [e1]
    refine zcSL (wf := fun (_ : Unit) => wLM a g cI cZ cL (edD B rc (b2 (¬ (xs (i + 2)) = 0))) C E td (vp_updL oo 0 (B 8 rc).toInt64) M) ksLL ⟨hx, hb, hml, hown, hts⟩ (zwLL hP hD hS hA) hK3 hX hZ (c_L_settle_0 l D cI cZ cL a H.size B C E td n rc (b2 (¬ (xs (i + 2)) = 0)) oo hB hn hrc k8) (vx_cwSW 4 hts gL_law_L_settle rfl rfl rfl (by decide +kernel) ⟨Nat.le_of_ble_eq_true rfl, Nat.le_of_ble_eq_true rfl⟩) (by decide) (fun _ => rfl) rfl hl.1 rfl (Nat.le_of_ble_eq_true rfl) dL_law_610 ⟨by show cells + 0 ≤ 1086; omega, by show slots + 0 ≤ 14466; omega⟩ (fun r u H locs hw hP hD hS => ?_)
    have hw : r = 0 := hw
    subst hw
    refine lv_istore (lv' := [(5, .int (0)), (0, .ref b), (1, .ref (a 0)), (2, .ref (g 0)), (3, .ref (a 26)), (4, .int (nI i))]) hx hb dL_law_613 hl (by decide) rfl (fun ls hl => ?_)
    refine lv_aload_n hx hb dL_law_615 rfl (lv_at hl 3 rfl) ?_
    refine arg_ld hx hb hl 1 5 rfl rfl 1 hi hL hSc hbl hbA hS (by decide) rfl dL_law_616 dL_law_617 dL_law_619 rfl dL_law_620 dL_law_621 ?_
    refine arg_ld hx hb hl 1 5 rfl rfl 2 hi hL hSc hbl hbA hS (by decide) rfl dL_law_622 dL_law_623 dL_law_625 rfl dL_law_626 dL_law_627 ?_
    refine arg_bl hx hb dL_law_628 dL_law_631 dL_law_632 dL_law_635 ?_
    rw [e1]
    refine zcVi (ci := 4) (q0 := 0) (wf := fun (u : Nat → Nat → Int32) => wLM a g cI cZ cL (edD B rc (b2 (¬ (xs (i + 2)) = 0))) C E td (vp_updL oo 0 (B 8 rc).toInt64) u) ksMM ⟨hx, hb, hml, hown, hts⟩ (zwMM hP hD hS hA) hK (c_X4_settle_0 l D cI cZ g H.size M n rc (b2 (¬ (xs (i + 2)) = 0)) hM hn hrc (by rw [← (rd_b h.1 hrc).2.2.1]; exact k8)) (cwV 2 hts gL_law_X4_settle rfl rfl rfl (by decide +kernel) ⟨Nat.le_of_ble_eq_true rfl, Nat.le_of_ble_eq_true rfl⟩) rfl rfl (by decide) (fun _ => rfl) rfl hl.1 rfl (Nat.le_of_ble_eq_true rfl) dL_law_636 ⟨by show cells + 0 + 0 ≤ 1086; omega, by show slots + 0 + 0 ≤ 14466; omega⟩ (fun r u H locs hw hP hD hS => ?_)
    obtain ⟨rfl, rfl⟩ := hw
    refine lv_istore (lv' := [(6, .int ((M 12 rc))), (5, .int (0)), (0, .ref b), (1, .ref (a 0)), (2, .ref (g 0)), (3, .ref (a 26)), (4, .int (nI i))]) hx hb dL_law_639 hl (by decide) rfl (fun ls hl => ?_)
    refine lw_tail (tgt := 1547) hx hb hml hown hts hK3 hA hP hD hS ⟨by decide, by decide⟩ ⟨by show cells + 0 + 0 ≤ 1086; omega, by show slots + 0 + 0 ≤ 14466; omega⟩ hl mstl_0 (fun _ => congrArg Int32.toInt64 (by rw [(rd_b h.1 hrc).2.2.1])) dL_law_641 dL_law_642 dL_law_645 dL_law_647 dL_law_652 dL_law_654 dL_law_657 dL_law_658 dL_law_659 dL_law_660 dL_law_662 dL_law_663 dL_law_664 dL_law_669 (by decide) (fun H locs hP hD hS => ?_)
    exact W.widen (by omega) (by omega) (kk _ _ _ _ _ _ _ _ _ _ _ ⟨h', hP, hD, hS, lv_sub hl [2, 3, 4, 5, 6] rfl⟩)
  · have hK5 : ¬ nI (stlK B (xs (i + 1))) = 0 := nI_ne0 (by omega) (by rcases (stlK_c : (stlK B (xs (i + 1))) = 0 ∨ (stlK B (xs (i + 1))) = 1 ∨ (stlK B (xs (i + 1))) = 2) with z | z | z <;> omega)
    refine zcSL (wf := fun (_ : Unit) => wLM a g cI cZ cL B C E td oo M) ksLL ⟨hx, hb, hml, hown, hts⟩ (zwLL hP hD hS hA) hK3 hX hZ (c_L_settle_k l hfl D cI cZ cL a H.size B C E td n (xs (i + 1)) (b2 (¬ (xs (i + 2)) = 0)) oo hB hn hk) (vx_cwSW 4 hts gL_law_L_settle rfl rfl rfl (by decide +kernel) ⟨Nat.le_of_ble_eq_true rfl, Nat.le_of_ble_eq_true rfl⟩) (by decide) (fun _ => rfl) rfl hl.1 rfl (Nat.le_of_ble_eq_true rfl) dL_law_610 ⟨hcs.1, hcs.2⟩ (fun r u H locs hw hP hD hS => ?_)
    have hw : r = nI (stlK B (xs (i + 1))) := hw
    subst hw
    refine lv_istore (lv' := [(5, .int (nI (stlK B (xs (i + 1))))), (0, .ref b), (1, .ref (a 0)), (2, .ref (g 0)), (3, .ref (a 26)), (4, .int (nI i))]) hx hb dL_law_613 hl (by decide) rfl (fun ls hl => ?_)
    refine lv_aload_n hx hb dL_law_615 rfl (lv_at hl 3 rfl) ?_
    refine arg_ld hx hb hl 1 5 rfl rfl 1 hi hL hSc hbl hbA hS (by decide) rfl dL_law_616 dL_law_617 dL_law_619 rfl dL_law_620 dL_law_621 ?_
    refine arg_ld hx hb hl 1 5 rfl rfl 2 hi hL hSc hbl hbA hS (by decide) rfl dL_law_622 dL_law_623 dL_law_625 rfl dL_law_626 dL_law_627 ?_
    refine arg_bl hx hb dL_law_628 dL_law_631 dL_law_632 dL_law_635 ?_
    refine zcVi (ci := 4) (q0 := 0) (wf := fun (u : Nat → Nat → Int32) => wLM a g cI cZ cL B C E td oo u) ksMM ⟨hx, hb, hml, hown, hts⟩ (zwMM hP hD hS hA) hK (c_X4_settle_k l D cI cZ g H.size M n (xs (i + 1)) (b2 (¬ (xs (i + 2)) = 0)) hM hn (by rw [rk_stl h.1]; exact hk)) (cwV 2 hts gL_law_X4_settle rfl rfl rfl (by decide +kernel) ⟨Nat.le_of_ble_eq_true rfl, Nat.le_of_ble_eq_true rfl⟩) rfl rfl (by decide) (fun _ => rfl) rfl hl.1 rfl (Nat.le_of_ble_eq_true rfl) dL_law_636 ⟨by show cells + 1 + 0 ≤ 1086; omega, by show slots + 6 + 0 ≤ 14466; omega⟩ (fun r u H locs hw hP hD hS => ?_)
    obtain ⟨rfl, rfl⟩ := hw
    refine lv_istore (lv' := [(6, .int (0)), (5, .int (nI (stlK B (xs (i + 1))))), (0, .ref b), (1, .ref (a 0)), (2, .ref (g 0)), (3, .ref (a 26)), (4, .int (nI i))]) hx hb dL_law_639 hl (by decide) rfl (fun ls hl => ?_)
    refine lw_tail (tgt := 1547) hx hb hml hown hts hK3 hA hP hD hS ⟨by decide, by decide⟩ ⟨by show cells + 1 + 0 ≤ 1086; omega, by show slots + 6 + 0 ≤ 14466; omega⟩ hl (by rw [pt_s, rk_stl h.1]) (fun z => absurd z hK5) dL_law_641 dL_law_642 dL_law_645 dL_law_647 dL_law_652 dL_law_654 dL_law_657 dL_law_658 dL_law_659 dL_law_660 dL_law_662 dL_law_663 dL_law_664 dL_law_669 (by decide) (fun H locs hP hD hS => ?_)
    exact W.widen (by omega) (by omega) (kk _ _ _ _ _ _ _ _ _ _ _ ⟨(rl_t (rl_0 h) (Nat.le_succ _)), hP, hD, hS, lv_sub hl [2, 3, 4, 5, 6] rfl⟩)
set_option maxHeartbeats 4000000 in
set_option maxRecDepth 100000 in
theorem lc_setFor (F : LwF p l R s m args c D A cI cZ cL b L xs) (S : LwS s D A a g cI cZ cL b i tt n q B C E td oo M H locs ls) (hi : i + 6 ≤ L) (ht : tt ≤ 1000) (hcs : cells + 1 ≤ 1086 ∧ slots + 6 ≤ 14466)
    (kk : LwK p l e R s m args below meth c Q D A a g cI cZ cL b i tt cells slots) : W p l e R s m args below meth c H locs cells slots Q (F0 m 1133 ls []) := by
  obtain ⟨hx, hb, hml, hown, hts, hK3, hA, hSc, hbl, hbA, hX, hZ, hfl, hL, rfl⟩ := F
  obtain ⟨h, hP, hD, hS, hl⟩ := S
  have hK : va_K D vwCl (tyl cI cZ) s := hK3.sub (tys' := tyl cI cZ) [0, 1] rfl
  have hB : B 11 0 = nI n := h.1.1.1
  have hM : M 2 0 = nI n := h.1.1.2.1
  have hn : n ≤ 40 := h.1.1.2.2.1
  have hC : C 8 0 = nI q := h.1.2.2.1.1
  have hMq : M 15 0 = nI q := h.1.2.2.1.2.1
  have hq : q ≤ 30 := h.1.2.2.1.2.2.1
  have hso : ∀ i j, i ≤ j → j < n → M 6 i ≤ M 6 j := h.1.1.2.2.2.2.2.2.2.1
  have hs0 : ∀ i, i < n → 0 ≤ M 6 i := fun i hi => leI.mpr (by rw [i0]; exact (h.1.1.2.2.2.2.2.2.1 i hi).2.2.2.2.2.2.2.2.2.1)
  refine lv_aload_n hx hb dL_law_1133 rfl (lv_at hl 1 rfl) ?_
  refine arg_ld hx hb hl 0 4 rfl rfl 1 hi hL hSc hbl hbA hS (by decide) rfl dL_law_1134 dL_law_1135 dL_law_1137 rfl dL_law_1138 dL_law_1139 ?_
  refine arg_ld hx hb hl 0 4 rfl rfl 2 hi hL hSc hbl hbA hS (by decide) rfl dL_law_1140 dL_law_1141 dL_law_1143 rfl dL_law_1144 dL_law_1145 ?_
  refine arg_ld hx hb hl 0 4 rfl rfl 3 hi hL hSc hbl hbA hS (by decide) rfl dL_law_1146 dL_law_1147 dL_law_1149 rfl dL_law_1150 dL_law_1151 ?_
  refine lv_aload_n hx hb dL_law_1152 rfl (lv_at hl 3 rfl) ?_
  by_cases hk : stfK (xs (i + 1)) (xs (i + 2)) (xs (i + 3)) = 0
  · obtain ⟨k1, k2, k3, pl, k4, e1⟩ := stfK_0i hk
    have h1 := rl_set (cu := (xs (i + 1))) (sm := ((xs (i + 2))).toInt64) h
    have h' := rl_t (tt' := tt + 1) h1 (Nat.le_succ _)
    rw [e1]
    refine zcSL (wf := fun (_ : Unit) => wLM a g cI cZ cL B C (cesE B E (xs (i + 1)) (xs (i + 2)) td n) td (vp_updL oo 0 (cesE B E (xs (i + 1)) (xs (i + 2)) td n 2 pl).toInt64) M) ksLL ⟨hx, hb, hml, hown, hts⟩ (zwLL hP hD hS hA) hK3 hX hZ (c_L_setFor_0 l D cI cZ cL a H.size B C E td n (xs (i + 1)) (xs (i + 2)) pl oo hB hn k1 k2 k3 k4) (vx_cwSW 5 hts gL_law_L_setFor rfl rfl rfl (by decide +kernel) ⟨Nat.le_of_ble_eq_true rfl, Nat.le_of_ble_eq_true rfl⟩) (by decide) (fun _ => rfl) rfl hl.1 rfl (Nat.le_of_ble_eq_true rfl) dL_law_1153 ⟨by show cells + 0 ≤ 1086; omega, by show slots + 0 ≤ 14466; omega⟩ (fun r u H locs hw hP hD hS => ?_)
    have hw : r = 0 := hw
    subst hw
    refine lv_istore (lv' := [(5, .int (0)), (0, .ref b), (1, .ref (a 0)), (2, .ref (g 0)), (3, .ref (a 26)), (4, .int (nI i))]) hx hb dL_law_1156 hl (by decide) rfl (fun ls hl => ?_)
    refine lv_aload_n hx hb dL_law_1158 rfl (lv_at hl 3 rfl) ?_
    refine arg_ld hx hb hl 1 5 rfl rfl 1 hi hL hSc hbl hbA hS (by decide) rfl dL_law_1159 dL_law_1160 dL_law_1162 rfl dL_law_1163 dL_law_1164 ?_
    refine arg_ld hx hb hl 1 5 rfl rfl 2 hi hL hSc hbl hbA hS (by decide) rfl dL_law_1165 dL_law_1166 dL_law_1168 rfl dL_law_1169 dL_law_1170 ?_
    refine arg_ld hx hb hl 1 5 rfl rfl 3 hi hL hSc hbl hbA hS (by decide) rfl dL_law_1171 dL_law_1172 dL_law_1174 rfl dL_law_1175 dL_law_1176 ?_
    rw [e1]
    refine zcVi (ci := 4) (q0 := 0) (wf := fun (u : Nat → Nat → Int32) => wLM a g cI cZ cL B C (cesE B E (xs (i + 1)) (xs (i + 2)) td n) td (vp_updL oo 0 (cesE B E (xs (i + 1)) (xs (i + 2)) td n 2 pl).toInt64) u) ksMM ⟨hx, hb, hml, hown, hts⟩ (zwMM hP hD hS hA) hK (c_X4_setFor_0 l D cI cZ g H.size M n (xs (i + 1)) (xs (i + 2)) pl hM hn ⟨k1, k2⟩ k3 k4) (cwV 3 hts gL_law_X4_setFor rfl rfl rfl (by decide +kernel) ⟨Nat.le_of_ble_eq_true rfl, Nat.le_of_ble_eq_true rfl⟩) rfl rfl (by decide) (fun _ => rfl) rfl hl.1 rfl (Nat.le_of_ble_eq_true rfl) dL_law_1177 ⟨by show cells + 0 + 0 ≤ 1086; omega, by show slots + 0 + 0 ≤ 14466; omega⟩ (fun r u H locs hw hP hD hS => ?_)
    obtain ⟨rfl, rfl⟩ := hw
    refine lv_istore (lv' := [(6, .int ((mstf M (xs (i + 1)) ((xs (i + 2))).toInt64 n pl))), (5, .int (0)), (0, .ref b), (1, .ref (a 0)), (2, .ref (g 0)), (3, .ref (a 26)), (4, .int (nI i))]) hx hb dL_law_1180 hl (by decide) rfl (fun ls hl => ?_)
    refine lw_tail (tgt := 1547) hx hb hml hown hts hK3 hA hP hD hS ⟨by decide, by decide⟩ ⟨by show cells + 0 + 0 ≤ 1086; omega, by show slots + 0 + 0 ≤ 14466; omega⟩ hl ((mcS_o (by decide)).trans pt_s) (fun _ => congrArg Int32.toInt64 (rd_set h.1 k3 k4)) dL_law_1182 dL_law_1183 dL_law_1186 dL_law_1188 dL_law_1193 dL_law_1195 dL_law_1198 dL_law_1199 dL_law_1200 dL_law_1201 dL_law_1203 dL_law_1204 dL_law_1205 dL_law_1210 (by decide) (fun H locs hP hD hS => ?_)
    exact W.widen (by omega) (by omega) (kk _ _ _ _ _ _ _ _ _ _ _ ⟨h', hP, hD, hS, lv_sub hl [2, 3, 4, 5, 6] rfl⟩)
  · have hK5 : ¬ nI (stfK (xs (i + 1)) (xs (i + 2)) (xs (i + 3))) = 0 := nI_ne0 (by omega) (by rcases (stfK_c : (stfK (xs (i + 1)) (xs (i + 2)) (xs (i + 3))) = 0 ∨ (stfK (xs (i + 1)) (xs (i + 2)) (xs (i + 3))) = 1 ∨ (stfK (xs (i + 1)) (xs (i + 2)) (xs (i + 3))) = 2) with z | z | z <;> omega)
    refine zcSL (wf := fun (_ : Unit) => wLM a g cI cZ cL B C E td oo M) ksLL ⟨hx, hb, hml, hown, hts⟩ (zwLL hP hD hS hA) hK3 hX hZ (c_L_setFor_k l hfl D cI cZ cL a H.size B C E td (xs (i + 1)) (xs (i + 2)) (xs (i + 3)) oo hk) (vx_cwSW 5 hts gL_law_L_setFor rfl rfl rfl (by decide +kernel) ⟨Nat.le_of_ble_eq_true rfl, Nat.le_of_ble_eq_true rfl⟩) (by decide) (fun _ => rfl) rfl hl.1 rfl (Nat.le_of_ble_eq_true rfl) dL_law_1153 ⟨hcs.1, hcs.2⟩ (fun r u H locs hw hP hD hS => ?_)
    have hw : r = nI (stfK (xs (i + 1)) (xs (i + 2)) (xs (i + 3))) := hw
    subst hw
    refine lv_istore (lv' := [(5, .int (nI (stfK (xs (i + 1)) (xs (i + 2)) (xs (i + 3))))), (0, .ref b), (1, .ref (a 0)), (2, .ref (g 0)), (3, .ref (a 26)), (4, .int (nI i))]) hx hb dL_law_1156 hl (by decide) rfl (fun ls hl => ?_)
    refine lv_aload_n hx hb dL_law_1158 rfl (lv_at hl 3 rfl) ?_
    refine arg_ld hx hb hl 1 5 rfl rfl 1 hi hL hSc hbl hbA hS (by decide) rfl dL_law_1159 dL_law_1160 dL_law_1162 rfl dL_law_1163 dL_law_1164 ?_
    refine arg_ld hx hb hl 1 5 rfl rfl 2 hi hL hSc hbl hbA hS (by decide) rfl dL_law_1165 dL_law_1166 dL_law_1168 rfl dL_law_1169 dL_law_1170 ?_
    refine arg_ld hx hb hl 1 5 rfl rfl 3 hi hL hSc hbl hbA hS (by decide) rfl dL_law_1171 dL_law_1172 dL_law_1174 rfl dL_law_1175 dL_law_1176 ?_
    refine zcVi (ci := 4) (q0 := 0) (wf := fun (u : Nat → Nat → Int32) => wLM a g cI cZ cL B C E td oo u) ksMM ⟨hx, hb, hml, hown, hts⟩ (zwMM hP hD hS hA) hK (c_X4_setFor_k l D cI cZ g H.size M (xs (i + 1)) (xs (i + 2)) (xs (i + 3)) hk) (cwV 3 hts gL_law_X4_setFor rfl rfl rfl (by decide +kernel) ⟨Nat.le_of_ble_eq_true rfl, Nat.le_of_ble_eq_true rfl⟩) rfl rfl (by decide) (fun _ => rfl) rfl hl.1 rfl (Nat.le_of_ble_eq_true rfl) dL_law_1177 ⟨by show cells + 1 + 0 ≤ 1086; omega, by show slots + 6 + 0 ≤ 14466; omega⟩ (fun r u H locs hw hP hD hS => ?_)
    obtain ⟨rfl, rfl⟩ := hw
    refine lv_istore (lv' := [(6, .int (0)), (5, .int (nI (stfK (xs (i + 1)) (xs (i + 2)) (xs (i + 3))))), (0, .ref b), (1, .ref (a 0)), (2, .ref (g 0)), (3, .ref (a 26)), (4, .int (nI i))]) hx hb dL_law_1180 hl (by decide) rfl (fun ls hl => ?_)
    refine lw_tail (tgt := 1547) hx hb hml hown hts hK3 hA hP hD hS ⟨by decide, by decide⟩ ⟨by show cells + 1 + 0 ≤ 1086; omega, by show slots + 6 + 0 ≤ 14466; omega⟩ hl (by rw [pt_s]) (fun z => absurd z hK5) dL_law_1182 dL_law_1183 dL_law_1186 dL_law_1188 dL_law_1193 dL_law_1195 dL_law_1198 dL_law_1199 dL_law_1200 dL_law_1201 dL_law_1203 dL_law_1204 dL_law_1205 dL_law_1210 (by decide) (fun H locs hP hD hS => ?_)
    exact W.widen (by omega) (by omega) (kk _ _ _ _ _ _ _ _ _ _ _ ⟨(rl_t (rl_0 h) (Nat.le_succ _)), hP, hD, hS, lv_sub hl [2, 3, 4, 5, 6] rfl⟩)
end LWB
