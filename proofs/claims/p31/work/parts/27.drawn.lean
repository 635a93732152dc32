/-- the script's k-th number, or one made up -/
def drw (L : Nat) (xs : Nat → Int32) (k : Nat) : Nat := (if k < L then xs k else nI (15523601 * (k + 3) + 13597)).toBitVec.toNat % 2 ^ 31
theorem drw_lt {L : Nat} {xs : Nat → Int32} {k : Nat} : drw L xs k < 2147483648 := Nat.mod_lt _ (by decide)
def PreD (D : va_G) (cI cZ : ClassId) (b L : Nat) (xs : Nat → Int32) (sz : Nat) (U : State) : Prop := PreW D cI cZ [] sz U ∧ va_X b L xs U U.heap ∧ b < sz
theorem PreD.blind {D : va_G} {cI cZ : ClassId} {b L : Nat} {xs : Nat → Int32} {sz : Nat} {av : List Value} : FrameBlind (va_Pc av (PreD D cI cZ b L xs sz)) := fun a U g mk q => by
  obtain ⟨q0, ⟨q1, q2, q3, q4⟩, q5, q6⟩ := q
  exact ⟨q0, ⟨q1, q2, va_K.moved (u := U) (U := U.calling g mk a) (Vm.Alike.refl U.vm) q3, q4⟩, va_X.moved (u := U) (U := U.calling g mk a) (Vm.Alike.refl U.vm) q5, q6⟩
theorem dL_drawn_0 : decode cL_drawn 0 = .ok (.iload_n 1, 1) := by decide +kernel
theorem dL_drawn_1 : decode cL_drawn 1 = .ok (.aload_n 0, 1) := by decide +kernel
theorem dL_drawn_2 : decode cL_drawn 2 = .ok (.arraylength, 1) := by decide +kernel
theorem dL_drawn_3 : decode cL_drawn 3 = .ok (.if_icmp .ge 9, 3) := by decide +kernel
theorem dL_drawn_6 : decode cL_drawn 6 = .ok (.aload_n 0, 1) := by decide +kernel
theorem dL_drawn_7 : decode cL_drawn 7 = .ok (.iload_n 1, 1) := by decide +kernel
theorem dL_drawn_8 : decode cL_drawn 8 = .ok (.iaload, 1) := by decide +kernel
theorem dL_drawn_9 : decode cL_drawn 9 = .ok (.goto 13, 3) := by decide +kernel
theorem dL_drawn_12 : decode cL_drawn 12 = .ok (.ldc 84, 2) := by decide +kernel
theorem dL_drawn_14 : decode cL_drawn 14 = .ok (.iload_n 1, 1) := by decide +kernel
theorem dL_drawn_15 : decode cL_drawn 15 = .ok (.iconst 3, 1) := by decide +kernel
theorem dL_drawn_16 : decode cL_drawn 16 = .ok (.iadd, 1) := by decide +kernel
theorem dL_drawn_17 : decode cL_drawn 17 = .ok (.imul, 1) := by decide +kernel
theorem dL_drawn_18 : decode cL_drawn 18 = .ok (.sipush 13597, 3) := by decide +kernel
theorem dL_drawn_21 : decode cL_drawn 21 = .ok (.iadd, 1) := by decide +kernel
theorem dL_drawn_22 : decode cL_drawn 22 = .ok (.ldc 85, 2) := by decide +kernel
theorem dL_drawn_24 : decode cL_drawn 24 = .ok (.iand, 1) := by decide +kernel
theorem dL_drawn_25 : decode cL_drawn 25 = .ok (.ireturn, 1) := by decide +kernel
set_option maxHeartbeats 4000000 in
set_option maxRecDepth 100000 in
theorem c_L_drawn (l : Launch) (D : va_G) (cI cZ : ClassId) (sz b L : Nat) (xs : Nat → Int32) (k : Nat) (hL : L ≤ 260) (hk : k < 1000) : Met l yL_drawn wsL_drawn ({ frames := 0, cells := 0, slots := 0, locals := 0 } : Room) (va_Pc [.ref b, .int (nI k)] (PreD D cI cZ b L xs sz)) (va_Qi (fun (r : Int32) (_ : Unit) => r = nI (drw L xs k)) (fun (_ : Unit) => PostW D cI cZ (va_A ([] : va_W) sz) ([] : va_W)) (va_A ([] : va_W) sz)) 0 0 (va_A ([] : va_W) sz) := by
  refine Met.ofW (cc := cL_drawn) (maxL := 2) (ret := (some .int)) (by decide) rfl ?_
  intro p e s m args below meth c s₁ BB hml hv
  obtain ⟨rfl, ⟨hsz, hP, hK, hD0⟩, hSc, hbl⟩ := hv
  have hx := BB.exec
  have hb := BB.bytes
  have hr := BB.returns
  have hts := atoms_spec (ws := wsL_drawn) BB.pre
  have hown : s.vm.findClass RL = some m.cls := findClass_of_methodNamed BB.named
  have hlocks := BB.notSynchronized
  clear BB
  subst hsz
  have hD := hD0.self (sz := s.heap.size)
  clear hD0
  have hbA : ¬ va_A ([] : va_W) s.heap.size b := fun z => by
    rcases z with z | z
    · simp at z
    · exact absurd hbl (Nat.not_lt.mpr z)
  generalize hAe : va_A ([] : va_W) s.heap.size = A at hD hbA ⊢
  clear hAe
  have hl := lv_entry ([.ref b, .int (nI k)]) (n := 2) (Nat.le_of_ble_eq_true rfl)
  rw [lg_entry_eq]
  generalize (lg_sl ([.ref b, .int (nI k)]) ++ List.replicate (2 - (lg_sl ([.ref b, .int (nI k)])).length) Slot.unset).toArray = ls at hl ⊢
  have hl : lv_has ls 2 [(0, .ref b), (1, .int (nI k))] := hl
  have hS : va_S A s.heap s.heap [] := va_S.rf
  have hfin : ∀ (v : Int32), v = (if k < L then xs k else nI (15523601 * (k + 3) + 13597)) → v &&& 2147483647 = nI (drw L xs k) := fun v hv => by
    subst hv
    exact pk_and _ 31 (by decide +kernel)
  refine lv_iload_n hx hb dL_drawn_0 rfl (lv_at hl 1 rfl) ?_
  refine lv_aload_n hx hb dL_drawn_1 rfl (lv_at hl 0 rfl) ?_
  refine va_slen hx hb hSc hbl hbA hS dL_drawn_2 ?_
  refine lv_icmp_ge (tgt := 12) hx hb dL_drawn_3 (by decide) (fun c3 => ?_) (fun c3 => ?_)
  · have c3 : nI L ≤ nI k := c3
    rw [nI_leI (by omega) (by omega)] at c3
    refine lv_ldc (v := nI 15523601) hx hb hown (hts (.constant RL 84 15523601) (by decide +kernel)) dL_drawn_12 ?_
    refine lv_iload_n hx hb dL_drawn_14 rfl (lv_at hl 1 rfl) ?_
    refine lv_iconst (v := nI 3) hx hb dL_drawn_15 (by decide) ?_
    refine lv_sum (x := k) (d := 3) hx hb rfl rfl dL_drawn_16 ?_
    refine lv_prod (x := 15523601) (d := k + 3) hx hb rfl rfl dL_drawn_17 ?_
    refine lv_sipush (v := nI 13597) hx hb dL_drawn_18 (by decide) ?_
    refine lv_sum (x := 15523601 * (k + 3)) (d := 13597) hx hb rfl rfl dL_drawn_21 ?_
    refine lv_ldc (v := 2147483647) hx hb hown (hts (.constant RL 85 2147483647) (by decide +kernel)) dL_drawn_22 ?_
    refine lv_iand hx hb dL_drawn_24 ?_
    rw [hfin _ (if_neg (by omega)).symm]
    exact W.iret (v := nI (drw L xs k)) hx hb hr (fun t ht hW => ⟨⟨nI (drw L xs k), (), rfl, rfl, by rw [ht]; exact hP, va_K.moved hW.alike hK, hD⟩, hS.F ht⟩) hS.2.2 dL_drawn_25
  · have c3 : ¬ nI L ≤ nI k := c3
    rw [nI_leI (by omega) (by omega)] at c3
    refine lv_aload_n hx hb dL_drawn_6 rfl (lv_at hl 0 rfl) ?_
    refine lv_iload_n hx hb dL_drawn_7 rfl (lv_at hl 1 rfl) ?_
    refine va_sld hx hb hSc hbl hbA hS (vp_in_nI (n := k) (N := L) (by omega) (by omega)) dL_drawn_8 ?_
    rw [nI_clamp (by omega)]
    refine lv_goto (tgt := 22) hx hb dL_drawn_9 (by decide) ?_
    refine lv_ldc (v := 2147483647) hx hb hown (hts (.constant RL 85 2147483647) (by decide +kernel)) dL_drawn_22 ?_
    refine lv_iand hx hb dL_drawn_24 ?_
    rw [hfin _ (if_pos (by omega)).symm]
    exact W.iret (v := nI (drw L xs k)) hx hb hr (fun t ht hW => ⟨⟨nI (drw L xs k), (), rfl, rfl, by rw [ht]; exact hP, va_K.moved hW.alike hK, hD⟩, hS.F ht⟩) hS.2.2 dL_drawn_25
