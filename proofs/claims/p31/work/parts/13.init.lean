
def z0 : Nat → Nat → Int32 := fun _ _ => 0
/-- the nest's words, of CashAllocator's constructor -/
def Nst (U : State) : Prop := va_Nw (.methodLinkNest RX3 9 yX0_init "CashAllocator") U ∧ va_Nw (.methodLinkNest RX3 18 yX2_init "CashAllocator") U ∧ va_Nw (.methodLinkNest RX3 25 yX1_init "CashAllocator") U
def PreN (D : va_G) (cI cZ : ClassId) (WS : va_W) (sz : Nat) (U : State) : Prop := PreW D cI cZ WS sz U ∧ Nst U
theorem PreN.blind {D : va_G} {cI cZ : ClassId} {WS : va_W} {sz : Nat} {av : List Value} : FrameBlind (va_Pc av (PreN D cI cZ WS sz)) := fun a U g mk q => by
  obtain ⟨q0, q1, q2, q3, q4⟩ := q
  exact ⟨q0, (PreW.blind (av := av) a U g mk ⟨q0, q1⟩).2, va_Nw.same rfl rfl q2, va_Nw.same rfl rfl q3, va_Nw.same rfl rfl q4⟩
section ZI
variable {p : Program} {l : Launch} {e : Env} {R : Room} {s : State} {m : MethodId} {args : Array Value} {below : List Frame} {meth : Method} {c : Code} {H : Heap} {locs : List Loc} {cells slots : Nat} {Q : State → Prop}
variable {y : MethodName} {bytes cc : ByteArray} {maxL nL mc ms n index : Nat} {wsy : List Cond} {rm : Room} {Ts : List Cond} {own host : String} {b : Addr} {As rest st0 : List Value} {pc : Nat} {ls : Array Slot}
variable {D : va_G} {cI cZ : ClassId} {ws wc wr : va_W} {A : Nat → Prop} {H0 : Heap}
/-- a nest mate's constructor -/
theorem zcIN {S : Type} {post : S → Prop} {w1 wf : S → va_W} {isC isR : List Nat} (ks : List Nat) (F : CallFix p m c cc nL s args Ts own) (z : ZW D A H0 ws wc wr H locs isC isR) (hK : va_K D vwCl (tyl cI cZ) s)
    (hM : Met l y wsy rm (va_Pc (.ref b :: As) (PreW D cI cZ wc H.size)) (va_Qv post (fun u => PostW D cI cZ (va_A wc H.size) (w1 u)) (va_A wc H.size)) mc ms (va_A wc H.size))
    (cw : va_CN R s args own index y host bytes maxL none wsy rm mc ms n ∧ y.name = "<init>" ∧ (Cond.instanceMethod y).before args s = true)
    (hk2 : va_nd ks = true) (hks : ∀ u, ks.map (fun i => (wr ++ w1 u)[i]?) = (wf u).map some)
    (hn : As.length = n) (hl : ls.size = nL) (hst : st0 = As.reverse ++ .ref b :: rest) (hroom : (rest.map fun v => v.category).sum ≤ 8) (hdg : decode cc pc = .ok (.invokespecial index, 3)) (hf : cells + mc ≤ R.cells ∧ slots + ms ≤ R.slots)
    (kk : ∀ (u : S) (H1 : Heap) (locs1 : List Loc), post u → va_P D vwCl (wf u) H1 → va_D A (wf u) → va_S A H0 H1 locs1 → W p l e R s m args below meth c H1 locs1 (cells + mc) (slots + ms) Q (F0 m (pc + 3) ls rest)) : W p l e R s m args below meth c H locs cells slots Q (F0 m pc ls st0) := by
  subst hst
  refine va_callv (va_runIN (rest := rest) F hM cw ⟨PreW.blind, fun U hU hW => ⟨rfl, zw_pre z hK hU hW⟩⟩ rfl hn hl rfl (lv_room hroom) hdg hf) z.2.2.1 (fun q _ h => zw_free z q h) (zw_free z) (fun u t H1 locs1 ht hvm hw hB hz1 hk1 hS => ?_)
  obtain ⟨hP1, hK1, hD1⟩ := hB
  rw [ht] at hP1
  obtain ⟨h1, h2⟩ := wj z.1 z.2.1 isC isR ks z.2.2.2.2.2.2.2.1 z.2.2.2.2.2.2.2.2 z.2.2.2.2.2.1 z.2.2.2.2.2.2.1 hk2 (hks u) hk1 (zw_free z) hP1 hD1
  exact kk u H1 locs1 hw h1 h2 hS
end ZI
set_option maxHeartbeats 8000000 in
set_option maxRecDepth 100000 in
theorem c_X0_init (l : Launch) (D : va_G) (cI cZ : ClassId) (h0 : Nat) (sz : Nat) : Met l yX0_init wsX0_init ({ frames := 1, cells := 11, slots := 440, locals := 12 } : Room) (va_Pc [.ref h0] (PreW D cI cZ [(h0, .inr (0, [.null, .null, .null, .null, .null, .null, .null, .null, .null, .null, .null, .int 0]))] sz)) (va_Qv (fun (u : Nat → Nat) => u 1 = h0) (fun (u : Nat → Nat) => PostW D cI cZ (va_A [(h0, .inr (0, [.null, .null, .null, .null, .null, .null, .null, .null, .null, .null, .null, .int 0]))] sz) (wBB u cI z0)) (va_A [(h0, .inr (0, [.null, .null, .null, .null, .null, .null, .null, .null, .null, .null, .null, .int 0]))] sz)) 11 440 (va_A [(h0, .inr (0, [.null, .null, .null, .null, .null, .null, .null, .null, .null, .null, .null, .int 0]))] sz) := by
  refine Met.ofW (cc := cX0_init) (maxL := 1) (ret := none) (by decide) rfl ?_
  intro p e s m args below meth c s₁ BB hml hv
  obtain ⟨rfl, hsz, hP, hK, hD0⟩ := hv
  have hx := BB.exec
  have hb := BB.bytes
  have hr := BB.returns
  have hts := atoms_spec (ws := wsX0_init) BB.pre
  have hown : s.vm.findClass RX0 = some m.cls := findClass_of_methodNamed BB.named
  have hlocks := BB.notSynchronized
  have hin : meth.name = "<init>" := (name_of_methodNamed BB.named BB.method).1
  clear BB
  subst hsz
  have hD := hD0.self (sz := s.heap.size)
  clear hD0
  generalize hAe : va_A [(h0, .inr (0, [.null, .null, .null, .null, .null, .null, .null, .null, .null, .null, .null, .int 0]))] s.heap.size = A at hD ⊢
  have hA : ∀ q : Nat, s.heap.size ≤ q → A q := fun q h => by rw [← hAe]; exact Or.inr h
  clear hAe
  have hl := lv_entry ([.ref h0]) (n := 1) (Nat.le_of_ble_eq_true rfl)
  rw [lg_entry_eq]
  generalize (lg_sl ([.ref h0]) ++ List.replicate (1 - (lg_sl ([.ref h0])).length) Slot.unset).toArray = ls at hl ⊢
  have hl : lv_has ls 1 [(0, .ref h0)] := hl
  generalize hHe : s.heap = H at hP ⊢
  have hS : va_S A s.heap H [] := by rw [← hHe]; exact va_S.rf
  clear hHe
  generalize hLe : ([] : List Loc) = locs at hS ⊢
  clear hLe
  refine lv_aload_n hx hb dX0_init_0 rfl (lv_at hl 0 rfl) ?_
  refine W.objInit hx hb hown (hts (.methodLink RX0 3 objectInit) (by decide +kernel)) (hts (.instanceMethod objectInit) (by decide +kernel)) (hts (.code objectInit ⟨#[0xb1]⟩ 1 none) (by decide +kernel)) rfl (by rw [hml]; exact hl.1) rfl dX0_init_1 (Nat.le_of_ble_eq_true rfl) (Nat.le_of_ble_eq_true rfl) ?_
  refine W.eq (g2 := F0 m 4 ls []) rfl ?_
  refine lv_aload_n hx hb dX0_init_4 rfl (lv_at hl 0 rfl) ?_
  refine lv_bipush (v := nI 40) hx hb dX0_init_5 (by decide) ?_
  refine va_newa (atype := .int) (ty := .int) (N' := 40) (a0 := (40, .inl (fun _ => 0))) hx hb (hts (.arrayClass .int) (by decide +kernel)) rfl hK hP hD hS hA (fun _ => rfl) (nI_pos (by omega)) (nI_clamp (by omega)) (by decide) (Nat.le_of_ble_eq_true rfl) (Nat.le_of_ble_eq_true rfl) dX0_init_7 (fun q7 cA H hK2 hP hD hS => ?_)
  obtain rfl : cI = cA := Option.some.inj ((hK.2 0 _ rfl).2.symm.trans (hK2.2 2 _ rfl).2)
  clear hK2
  have hP : va_P D vwCl [(h0, .inr (0, [.null, .null, .null, .null, .null, .null, .null, .null, .null, .null, .null, .int 0])), (q7, .inl (cI, 40, .inl (fun _ => 0)))] H := hP
  have hD : va_D A [(h0, .inr (0, [.null, .null, .null, .null, .null, .null, .null, .null, .null, .null, .null, .int 0])), (q7, .inl (cI, 40, .inl (fun _ => 0)))] := hD
  refine W.widen (k := 1) (n := 40) (Nat.le_of_ble_eq_true rfl) (Nat.le_of_ble_eq_true rfl) ?_
  refine va_putF (D := D) (ci := 0) (v := .ref q7) (ty := .array .int) (C := RX0) (T := TX0) (N := 12) hx hb hts (fun w h => List.mem_cons_of_mem _ (List.mem_append_right _ h)) tyX0 tyX0_ok nmX0 hown hK hP hD hS 0 rfl rfl 0 (by decide) (hts (.fieldLink RX0 9 "CashAllocator$BillBook" "customer" "[I") (by decide +kernel)) (fun _ h9 => h9) rfl hin rfl (by decide +kernel) rfl rfl (Nat.le_of_ble_eq_true rfl) dX0_init_9 (fun H locs hP hD hS => ?_)
  have hP : va_P D vwCl [(h0, .inr (0, [.ref q7, .null, .null, .null, .null, .null, .null, .null, .null, .null, .null, .int 0])), (q7, .inl (cI, 40, .inl (fun _ => 0)))] H := hP
  have hD : va_D A [(h0, .inr (0, [.ref q7, .null, .null, .null, .null, .null, .null, .null, .null, .null, .null, .int 0])), (q7, .inl (cI, 40, .inl (fun _ => 0)))] := hD
  refine lv_aload_n hx hb dX0_init_12 rfl (lv_at hl 0 rfl) ?_
  refine lv_bipush (v := nI 40) hx hb dX0_init_13 (by decide) ?_
  refine va_newa (atype := .int) (ty := .int) (N' := 40) (a0 := (40, .inl (fun _ => 0))) hx hb (hts (.arrayClass .int) (by decide +kernel)) rfl hK hP hD hS hA (fun _ => rfl) (nI_pos (by omega)) (nI_clamp (by omega)) (by decide) (Nat.le_of_ble_eq_true rfl) (Nat.le_of_ble_eq_true rfl) dX0_init_15 (fun q15 cA H hK2 hP hD hS => ?_)
  obtain rfl : cI = cA := Option.some.inj ((hK.2 0 _ rfl).2.symm.trans (hK2.2 2 _ rfl).2)
  clear hK2
  have hP : va_P D vwCl [(h0, .inr (0, [.ref q7, .null, .null, .null, .null, .null, .null, .null, .null, .null, .null, .int 0])), (q7, .inl (cI, 40, .inl (fun _ => 0))), (q15, .inl (cI, 40, .inl (fun _ => 0)))] H := hP
  have hD : va_D A [(h0, .inr (0, [.ref q7, .null, .null, .null, .null, .null, .null, .null, .null, .null, .null, .int 0])), (q7, .inl (cI, 40, .inl (fun _ => 0))), (q15, .inl (cI, 40, .inl (fun _ => 0)))] := hD
  refine W.widen (k := 2) (n := 80) (Nat.le_of_ble_eq_true rfl) (Nat.le_of_ble_eq_true rfl) ?_
  refine va_putF (D := D) (ci := 0) (v := .ref q15) (ty := .array .int) (C := RX0) (T := TX0) (N := 12) hx hb hts (fun w h => List.mem_cons_of_mem _ (List.mem_append_right _ h)) tyX0 tyX0_ok nmX0 hown hK hP hD hS 0 rfl rfl 1 (by decide) (hts (.fieldLink RX0 15 "CashAllocator$BillBook" "amount" "[I") (by decide +kernel)) (fun _ h9 => h9) rfl hin rfl (by decide +kernel) rfl rfl (Nat.le_of_ble_eq_true rfl) dX0_init_17 (fun H locs hP hD hS => ?_)
  have hP : va_P D vwCl [(h0, .inr (0, [.ref q7, .ref q15, .null, .null, .null, .null, .null, .null, .null, .null, .null, .int 0])), (q7, .inl (cI, 40, .inl (fun _ => 0))), (q15, .inl (cI, 40, .inl (fun _ => 0)))] H := hP
  have hD : va_D A [(h0, .inr (0, [.ref q7, .ref q15, .null, .null, .null, .null, .null, .null, .null, .null, .null, .int 0])), (q7, .inl (cI, 40, .inl (fun _ => 0))), (q15, .inl (cI, 40, .inl (fun _ => 0)))] := hD
  refine lv_aload_n hx hb dX0_init_20 rfl (lv_at hl 0 rfl) ?_
  refine lv_bipush (v := nI 40) hx hb dX0_init_21 (by decide) ?_
  refine va_newa (atype := .int) (ty := .int) (N' := 40) (a0 := (40, .inl (fun _ => 0))) hx hb (hts (.arrayClass .int) (by decide +kernel)) rfl hK hP hD hS hA (fun _ => rfl) (nI_pos (by omega)) (nI_clamp (by omega)) (by decide) (Nat.le_of_ble_eq_true rfl) (Nat.le_of_ble_eq_true rfl) dX0_init_23 (fun q23 cA H hK2 hP hD hS => ?_)
  obtain rfl : cI = cA := Option.some.inj ((hK.2 0 _ rfl).2.symm.trans (hK2.2 2 _ rfl).2)
  clear hK2
  have hP : va_P D vwCl [(h0, .inr (0, [.ref q7, .ref q15, .null, .null, .null, .null, .null, .null, .null, .null, .null, .int 0])), (q7, .inl (cI, 40, .inl (fun _ => 0))), (q15, .inl (cI, 40, .inl (fun _ => 0))), (q23, .inl (cI, 40, .inl (fun _ => 0)))] H := hP
  have hD : va_D A [(h0, .inr (0, [.ref q7, .ref q15, .null, .null, .null, .null, .null, .null, .null, .null, .null, .int 0])), (q7, .inl (cI, 40, .inl (fun _ => 0))), (q15, .inl (cI, 40, .inl (fun _ => 0))), (q23, .inl (cI, 40, .inl (fun _ => 0)))] := hD
  refine W.widen (k := 3) (n := 120) (Nat.le_of_ble_eq_true rfl) (Nat.le_of_ble_eq_true rfl) ?_
  refine va_putF (D := D) (ci := 0) (v := .ref q23) (ty := .array .int) (C := RX0) (T := TX0) (N := 12) hx hb hts (fun w h => List.mem_cons_of_mem _ (List.mem_append_right _ h)) tyX0 tyX0_ok nmX0 hown hK hP hD hS 0 rfl rfl 2 (by decide) (hts (.fieldLink RX0 18 "CashAllocator$BillBook" "reference" "[I") (by decide +kernel)) (fun _ h9 => h9) rfl hin rfl (by decide +kernel) rfl rfl (Nat.le_of_ble_eq_true rfl) dX0_init_25 (fun H locs hP hD hS => ?_)
  have hP : va_P D vwCl [(h0, .inr (0, [.ref q7, .ref q15, .ref q23, .null, .null, .null, .null, .null, .null, .null, .null, .int 0])), (q7, .inl (cI, 40, .inl (fun _ => 0))), (q15, .inl (cI, 40, .inl (fun _ => 0))), (q23, .inl (cI, 40, .inl (fun _ => 0)))] H := hP
  have hD : va_D A [(h0, .inr (0, [.ref q7, .ref q15, .ref q23, .null, .null, .null, .null, .null, .null, .null, .null, .int 0])), (q7, .inl (cI, 40, .inl (fun _ => 0))), (q15, .inl (cI, 40, .inl (fun _ => 0))), (q23, .inl (cI, 40, .inl (fun _ => 0)))] := hD
  refine lv_aload_n hx hb dX0_init_28 rfl (lv_at hl 0 rfl) ?_
  refine lv_bipush (v := nI 40) hx hb dX0_init_29 (by decide) ?_
  refine va_newa (atype := .int) (ty := .int) (N' := 40) (a0 := (40, .inl (fun _ => 0))) hx hb (hts (.arrayClass .int) (by decide +kernel)) rfl hK hP hD hS hA (fun _ => rfl) (nI_pos (by omega)) (nI_clamp (by omega)) (by decide) (Nat.le_of_ble_eq_true rfl) (Nat.le_of_ble_eq_true rfl) dX0_init_31 (fun q31 cA H hK2 hP hD hS => ?_)
  obtain rfl : cI = cA := Option.some.inj ((hK.2 0 _ rfl).2.symm.trans (hK2.2 2 _ rfl).2)
  clear hK2
  have hP : va_P D vwCl [(h0, .inr (0, [.ref q7, .ref q15, .ref q23, .null, .null, .null, .null, .null, .null, .null, .null, .int 0])), (q7, .inl (cI, 40, .inl (fun _ => 0))), (q15, .inl (cI, 40, .inl (fun _ => 0))), (q23, .inl (cI, 40, .inl (fun _ => 0))), (q31, .inl (cI, 40, .inl (fun _ => 0)))] H := hP
  have hD : va_D A [(h0, .inr (0, [.ref q7, .ref q15, .ref q23, .null, .null, .null, .null, .null, .null, .null, .null, .int 0])), (q7, .inl (cI, 40, .inl (fun _ => 0))), (q15, .inl (cI, 40, .inl (fun _ => 0))), (q23, .inl (cI, 40, .inl (fun _ => 0))), (q31, .inl (cI, 40, .inl (fun _ => 0)))] := hD
  refine W.widen (k := 4) (n := 160) (Nat.le_of_ble_eq_true rfl) (Nat.le_of_ble_eq_true rfl) ?_
  refine va_putF (D := D) (ci := 0) (v := .ref q31) (ty := .array .int) (C := RX0) (T := TX0) (N := 12) hx hb hts (fun w h => List.mem_cons_of_mem _ (List.mem_append_right _ h)) tyX0 tyX0_ok nmX0 hown hK hP hD hS 0 rfl rfl 3 (by decide) (hts (.fieldLink RX0 21 "CashAllocator$BillBook" "discount" "[I") (by decide +kernel)) (fun _ h9 => h9) rfl hin rfl (by decide +kernel) rfl rfl (Nat.le_of_ble_eq_true rfl) dX0_init_33 (fun H locs hP hD hS => ?_)
  have hP : va_P D vwCl [(h0, .inr (0, [.ref q7, .ref q15, .ref q23, .ref q31, .null, .null, .null, .null, .null, .null, .null, .int 0])), (q7, .inl (cI, 40, .inl (fun _ => 0))), (q15, .inl (cI, 40, .inl (fun _ => 0))), (q23, .inl (cI, 40, .inl (fun _ => 0))), (q31, .inl (cI, 40, .inl (fun _ => 0)))] H := hP
  have hD : va_D A [(h0, .inr (0, [.ref q7, .ref q15, .ref q23, .ref q31, .null, .null, .null, .null, .null, .null, .null, .int 0])), (q7, .inl (cI, 40, .inl (fun _ => 0))), (q15, .inl (cI, 40, .inl (fun _ => 0))), (q23, .inl (cI, 40, .inl (fun _ => 0))), (q31, .inl (cI, 40, .inl (fun _ => 0)))] := hD
  refine lv_aload_n hx hb dX0_init_36 rfl (lv_at hl 0 rfl) ?_
  refine lv_bipush (v := nI 40) hx hb dX0_init_37 (by decide) ?_
  refine va_newa (atype := .int) (ty := .int) (N' := 40) (a0 := (40, .inl (fun _ => 0))) hx hb (hts (.arrayClass .int) (by decide +kernel)) rfl hK hP hD hS hA (fun _ => rfl) (nI_pos (by omega)) (nI_clamp (by omega)) (by decide) (Nat.le_of_ble_eq_true rfl) (Nat.le_of_ble_eq_true rfl) dX0_init_39 (fun q39 cA H hK2 hP hD hS => ?_)
  obtain rfl : cI = cA := Option.some.inj ((hK.2 0 _ rfl).2.symm.trans (hK2.2 2 _ rfl).2)
  clear hK2
  have hP : va_P D vwCl [(h0, .inr (0, [.ref q7, .ref q15, .ref q23, .ref q31, .null, .null, .null, .null, .null, .null, .null, .int 0])), (q7, .inl (cI, 40, .inl (fun _ => 0))), (q15, .inl (cI, 40, .inl (fun _ => 0))), (q23, .inl (cI, 40, .inl (fun _ => 0))), (q31, .inl (cI, 40, .inl (fun _ => 0))), (q39, .inl (cI, 40, .inl (fun _ => 0)))] H := hP
  have hD : va_D A [(h0, .inr (0, [.ref q7, .ref q15, .ref q23, .ref q31, .null, .null, .null, .null, .null, .null, .null, .int 0])), (q7, .inl (cI, 40, .inl (fun _ => 0))), (q15, .inl (cI, 40, .inl (fun _ => 0))), (q23, .inl (cI, 40, .inl (fun _ => 0))), (q31, .inl (cI, 40, .inl (fun _ => 0))), (q39, .inl (cI, 40, .inl (fun _ => 0)))] := hD
  refine W.widen (k := 5) (n := 200) (Nat.le_of_ble_eq_true rfl) (Nat.le_of_ble_eq_true rfl) ?_
  refine va_putF (D := D) (ci := 0) (v := .ref q39) (ty := .array .int) (C := RX0) (T := TX0) (N := 12) hx hb hts (fun w h => List.mem_cons_of_mem _ (List.mem_append_right _ h)) tyX0 tyX0_ok nmX0 hown hK hP hD hS 0 rfl rfl 4 (by decide) (hts (.fieldLink RX0 24 "CashAllocator$BillBook" "lastDiscountDay" "[I") (by decide +kernel)) (fun _ h9 => h9) rfl hin rfl (by decide +kernel) rfl rfl (Nat.le_of_ble_eq_true rfl) dX0_init_41 (fun H locs hP hD hS => ?_)
  have hP : va_P D vwCl [(h0, .inr (0, [.ref q7, .ref q15, .ref q23, .ref q31, .ref q39, .null, .null, .null, .null, .null, .null, .int 0])), (q7, .inl (cI, 40, .inl (fun _ => 0))), (q15, .inl (cI, 40, .inl (fun _ => 0))), (q23, .inl (cI, 40, .inl (fun _ => 0))), (q31, .inl (cI, 40, .inl (fun _ => 0))), (q39, .inl (cI, 40, .inl (fun _ => 0)))] H := hP
  have hD : va_D A [(h0, .inr (0, [.ref q7, .ref q15, .ref q23, .ref q31, .ref q39, .null, .null, .null, .null, .null, .null, .int 0])), (q7, .inl (cI, 40, .inl (fun _ => 0))), (q15, .inl (cI, 40, .inl (fun _ => 0))), (q23, .inl (cI, 40, .inl (fun _ => 0))), (q31, .inl (cI, 40, .inl (fun _ => 0))), (q39, .inl (cI, 40, .inl (fun _ => 0)))] := hD
  refine lv_aload_n hx hb dX0_init_44 rfl (lv_at hl 0 rfl) ?_
  refine lv_bipush (v := nI 40) hx hb dX0_init_45 (by decide) ?_
  refine va_newa (atype := .int) (ty := .int) (N' := 40) (a0 := (40, .inl (fun _ => 0))) hx hb (hts (.arrayClass .int) (by decide +kernel)) rfl hK hP hD hS hA (fun _ => rfl) (nI_pos (by omega)) (nI_clamp (by omega)) (by decide) (Nat.le_of_ble_eq_true rfl) (Nat.le_of_ble_eq_true rfl) dX0_init_47 (fun q47 cA H hK2 hP hD hS => ?_)
  obtain rfl : cI = cA := Option.some.inj ((hK.2 0 _ rfl).2.symm.trans (hK2.2 2 _ rfl).2)
  clear hK2
  have hP : va_P D vwCl [(h0, .inr (0, [.ref q7, .ref q15, .ref q23, .ref q31, .ref q39, .null, .null, .null, .null, .null, .null, .int 0])), (q7, .inl (cI, 40, .inl (fun _ => 0))), (q15, .inl (cI, 40, .inl (fun _ => 0))), (q23, .inl (cI, 40, .inl (fun _ => 0))), (q31, .inl (cI, 40, .inl (fun _ => 0))), (q39, .inl (cI, 40, .inl (fun _ => 0))), (q47, .inl (cI, 40, .inl (fun _ => 0)))] H := hP
  have hD : va_D A [(h0, .inr (0, [.ref q7, .ref q15, .ref q23, .ref q31, .ref q39, .null, .null, .null, .null, .null, .null, .int 0])), (q7, .inl (cI, 40, .inl (fun _ => 0))), (q15, .inl (cI, 40, .inl (fun _ => 0))), (q23, .inl (cI, 40, .inl (fun _ => 0))), (q31, .inl (cI, 40, .inl (fun _ => 0))), (q39, .inl (cI, 40, .inl (fun _ => 0))), (q47, .inl (cI, 40, .inl (fun _ => 0)))] := hD
  refine W.widen (k := 6) (n := 240) (Nat.le_of_ble_eq_true rfl) (Nat.le_of_ble_eq_true rfl) ?_
  refine va_putF (D := D) (ci := 0) (v := .ref q47) (ty := .array .int) (C := RX0) (T := TX0) (N := 12) hx hb hts (fun w h => List.mem_cons_of_mem _ (List.mem_append_right _ h)) tyX0 tyX0_ok nmX0 hown hK hP hD hS 0 rfl rfl 5 (by decide) (hts (.fieldLink RX0 27 "CashAllocator$BillBook" "paid" "[I") (by decide +kernel)) (fun _ h9 => h9) rfl hin rfl (by decide +kernel) rfl rfl (Nat.le_of_ble_eq_true rfl) dX0_init_49 (fun H locs hP hD hS => ?_)
  have hP : va_P D vwCl [(h0, .inr (0, [.ref q7, .ref q15, .ref q23, .ref q31, .ref q39, .ref q47, .null, .null, .null, .null, .null, .int 0])), (q7, .inl (cI, 40, .inl (fun _ => 0))), (q15, .inl (cI, 40, .inl (fun _ => 0))), (q23, .inl (cI, 40, .inl (fun _ => 0))), (q31, .inl (cI, 40, .inl (fun _ => 0))), (q39, .inl (cI, 40, .inl (fun _ => 0))), (q47, .inl (cI, 40, .inl (fun _ => 0)))] H := hP
  have hD : va_D A [(h0, .inr (0, [.ref q7, .ref q15, .ref q23, .ref q31, .ref q39, .ref q47, .null, .null, .null, .null, .null, .int 0])), (q7, .inl (cI, 40, .inl (fun _ => 0))), (q15, .inl (cI, 40, .inl (fun _ => 0))), (q23, .inl (cI, 40, .inl (fun _ => 0))), (q31, .inl (cI, 40, .inl (fun _ => 0))), (q39, .inl (cI, 40, .inl (fun _ => 0))), (q47, .inl (cI, 40, .inl (fun _ => 0)))] := hD
  refine lv_aload_n hx hb dX0_init_52 rfl (lv_at hl 0 rfl) ?_
  refine lv_bipush (v := nI 40) hx hb dX0_init_53 (by decide) ?_
  refine va_newa (atype := .int) (ty := .int) (N' := 40) (a0 := (40, .inl (fun _ => 0))) hx hb (hts (.arrayClass .int) (by decide +kernel)) rfl hK hP hD hS hA (fun _ => rfl) (nI_pos (by omega)) (nI_clamp (by omega)) (by decide) (Nat.le_of_ble_eq_true rfl) (Nat.le_of_ble_eq_true rfl) dX0_init_55 (fun q55 cA H hK2 hP hD hS => ?_)
  obtain rfl : cI = cA := Option.some.inj ((hK.2 0 _ rfl).2.symm.trans (hK2.2 2 _ rfl).2)
  clear hK2
  have hP : va_P D vwCl [(h0, .inr (0, [.ref q7, .ref q15, .ref q23, .ref q31, .ref q39, .ref q47, .null, .null, .null, .null, .null, .int 0])), (q7, .inl (cI, 40, .inl (fun _ => 0))), (q15, .inl (cI, 40, .inl (fun _ => 0))), (q23, .inl (cI, 40, .inl (fun _ => 0))), (q31, .inl (cI, 40, .inl (fun _ => 0))), (q39, .inl (cI, 40, .inl (fun _ => 0))), (q47, .inl (cI, 40, .inl (fun _ => 0))), (q55, .inl (cI, 40, .inl (fun _ => 0)))] H := hP
  have hD : va_D A [(h0, .inr (0, [.ref q7, .ref q15, .ref q23, .ref q31, .ref q39, .ref q47, .null, .null, .null, .null, .null, .int 0])), (q7, .inl (cI, 40, .inl (fun _ => 0))), (q15, .inl (cI, 40, .inl (fun _ => 0))), (q23, .inl (cI, 40, .inl (fun _ => 0))), (q31, .inl (cI, 40, .inl (fun _ => 0))), (q39, .inl (cI, 40, .inl (fun _ => 0))), (q47, .inl (cI, 40, .inl (fun _ => 0))), (q55, .inl (cI, 40, .inl (fun _ => 0)))] := hD
  refine W.widen (k := 7) (n := 280) (Nat.le_of_ble_eq_true rfl) (Nat.le_of_ble_eq_true rfl) ?_
  refine va_putF (D := D) (ci := 0) (v := .ref q55) (ty := .array .int) (C := RX0) (T := TX0) (N := 12) hx hb hts (fun w h => List.mem_cons_of_mem _ (List.mem_append_right _ h)) tyX0 tyX0_ok nmX0 hown hK hP hD hS 0 rfl rfl 6 (by decide) (hts (.fieldLink RX0 30 "CashAllocator$BillBook" "taken" "[I") (by decide +kernel)) (fun _ h9 => h9) rfl hin rfl (by decide +kernel) rfl rfl (Nat.le_of_ble_eq_true rfl) dX0_init_57 (fun H locs hP hD hS => ?_)
  have hP : va_P D vwCl [(h0, .inr (0, [.ref q7, .ref q15, .ref q23, .ref q31, .ref q39, .ref q47, .ref q55, .null, .null, .null, .null, .int 0])), (q7, .inl (cI, 40, .inl (fun _ => 0))), (q15, .inl (cI, 40, .inl (fun _ => 0))), (q23, .inl (cI, 40, .inl (fun _ => 0))), (q31, .inl (cI, 40, .inl (fun _ => 0))), (q39, .inl (cI, 40, .inl (fun _ => 0))), (q47, .inl (cI, 40, .inl (fun _ => 0))), (q55, .inl (cI, 40, .inl (fun _ => 0)))] H := hP
  have hD : va_D A [(h0, .inr (0, [.ref q7, .ref q15, .ref q23, .ref q31, .ref q39, .ref q47, .ref q55, .null, .null, .null, .null, .int 0])), (q7, .inl (cI, 40, .inl (fun _ => 0))), (q15, .inl (cI, 40, .inl (fun _ => 0))), (q23, .inl (cI, 40, .inl (fun _ => 0))), (q31, .inl (cI, 40, .inl (fun _ => 0))), (q39, .inl (cI, 40, .inl (fun _ => 0))), (q47, .inl (cI, 40, .inl (fun _ => 0))), (q55, .inl (cI, 40, .inl (fun _ => 0)))] := hD
  refine lv_aload_n hx hb dX0_init_60 rfl (lv_at hl 0 rfl) ?_
  refine lv_bipush (v := nI 40) hx hb dX0_init_61 (by decide) ?_
  refine va_newa (atype := .int) (ty := .int) (N' := 40) (a0 := (40, .inl (fun _ => 0))) hx hb (hts (.arrayClass .int) (by decide +kernel)) rfl hK hP hD hS hA (fun _ => rfl) (nI_pos (by omega)) (nI_clamp (by omega)) (by decide) (Nat.le_of_ble_eq_true rfl) (Nat.le_of_ble_eq_true rfl) dX0_init_63 (fun q63 cA H hK2 hP hD hS => ?_)
  obtain rfl : cI = cA := Option.some.inj ((hK.2 0 _ rfl).2.symm.trans (hK2.2 2 _ rfl).2)
  clear hK2
  have hP : va_P D vwCl [(h0, .inr (0, [.ref q7, .ref q15, .ref q23, .ref q31, .ref q39, .ref q47, .ref q55, .null, .null, .null, .null, .int 0])), (q7, .inl (cI, 40, .inl (fun _ => 0))), (q15, .inl (cI, 40, .inl (fun _ => 0))), (q23, .inl (cI, 40, .inl (fun _ => 0))), (q31, .inl (cI, 40, .inl (fun _ => 0))), (q39, .inl (cI, 40, .inl (fun _ => 0))), (q47, .inl (cI, 40, .inl (fun _ => 0))), (q55, .inl (cI, 40, .inl (fun _ => 0))), (q63, .inl (cI, 40, .inl (fun _ => 0)))] H := hP
  have hD : va_D A [(h0, .inr (0, [.ref q7, .ref q15, .ref q23, .ref q31, .ref q39, .ref q47, .ref q55, .null, .null, .null, .null, .int 0])), (q7, .inl (cI, 40, .inl (fun _ => 0))), (q15, .inl (cI, 40, .inl (fun _ => 0))), (q23, .inl (cI, 40, .inl (fun _ => 0))), (q31, .inl (cI, 40, .inl (fun _ => 0))), (q39, .inl (cI, 40, .inl (fun _ => 0))), (q47, .inl (cI, 40, .inl (fun _ => 0))), (q55, .inl (cI, 40, .inl (fun _ => 0))), (q63, .inl (cI, 40, .inl (fun _ => 0)))] := hD
  refine W.widen (k := 8) (n := 320) (Nat.le_of_ble_eq_true rfl) (Nat.le_of_ble_eq_true rfl) ?_
  refine va_putF (D := D) (ci := 0) (v := .ref q63) (ty := .array .int) (C := RX0) (T := TX0) (N := 12) hx hb hts (fun w h => List.mem_cons_of_mem _ (List.mem_append_right _ h)) tyX0 tyX0_ok nmX0 hown hK hP hD hS 0 rfl rfl 7 (by decide) (hts (.fieldLink RX0 33 "CashAllocator$BillBook" "takenBy" "[I") (by decide +kernel)) (fun _ h9 => h9) rfl hin rfl (by decide +kernel) rfl rfl (Nat.le_of_ble_eq_true rfl) dX0_init_65 (fun H locs hP hD hS => ?_)
  have hP : va_P D vwCl [(h0, .inr (0, [.ref q7, .ref q15, .ref q23, .ref q31, .ref q39, .ref q47, .ref q55, .ref q63, .null, .null, .null, .int 0])), (q7, .inl (cI, 40, .inl (fun _ => 0))), (q15, .inl (cI, 40, .inl (fun _ => 0))), (q23, .inl (cI, 40, .inl (fun _ => 0))), (q31, .inl (cI, 40, .inl (fun _ => 0))), (q39, .inl (cI, 40, .inl (fun _ => 0))), (q47, .inl (cI, 40, .inl (fun _ => 0))), (q55, .inl (cI, 40, .inl (fun _ => 0))), (q63, .inl (cI, 40, .inl (fun _ => 0)))] H := hP
  have hD : va_D A [(h0, .inr (0, [.ref q7, .ref q15, .ref q23, .ref q31, .ref q39, .ref q47, .ref q55, .ref q63, .null, .null, .null, .int 0])), (q7, .inl (cI, 40, .inl (fun _ => 0))), (q15, .inl (cI, 40, .inl (fun _ => 0))), (q23, .inl (cI, 40, .inl (fun _ => 0))), (q31, .inl (cI, 40, .inl (fun _ => 0))), (q39, .inl (cI, 40, .inl (fun _ => 0))), (q47, .inl (cI, 40, .inl (fun _ => 0))), (q55, .inl (cI, 40, .inl (fun _ => 0))), (q63, .inl (cI, 40, .inl (fun _ => 0)))] := hD
  refine lv_aload_n hx hb dX0_init_68 rfl (lv_at hl 0 rfl) ?_
  refine lv_bipush (v := nI 40) hx hb dX0_init_69 (by decide) ?_
  refine va_newa (atype := .int) (ty := .int) (N' := 40) (a0 := (40, .inl (fun _ => 0))) hx hb (hts (.arrayClass .int) (by decide +kernel)) rfl hK hP hD hS hA (fun _ => rfl) (nI_pos (by omega)) (nI_clamp (by omega)) (by decide) (Nat.le_of_ble_eq_true rfl) (Nat.le_of_ble_eq_true rfl) dX0_init_71 (fun q71 cA H hK2 hP hD hS => ?_)
  obtain rfl : cI = cA := Option.some.inj ((hK.2 0 _ rfl).2.symm.trans (hK2.2 2 _ rfl).2)
  clear hK2
  have hP : va_P D vwCl [(h0, .inr (0, [.ref q7, .ref q15, .ref q23, .ref q31, .ref q39, .ref q47, .ref q55, .ref q63, .null, .null, .null, .int 0])), (q7, .inl (cI, 40, .inl (fun _ => 0))), (q15, .inl (cI, 40, .inl (fun _ => 0))), (q23, .inl (cI, 40, .inl (fun _ => 0))), (q31, .inl (cI, 40, .inl (fun _ => 0))), (q39, .inl (cI, 40, .inl (fun _ => 0))), (q47, .inl (cI, 40, .inl (fun _ => 0))), (q55, .inl (cI, 40, .inl (fun _ => 0))), (q63, .inl (cI, 40, .inl (fun _ => 0))), (q71, .inl (cI, 40, .inl (fun _ => 0)))] H := hP
  have hD : va_D A [(h0, .inr (0, [.ref q7, .ref q15, .ref q23, .ref q31, .ref q39, .ref q47, .ref q55, .ref q63, .null, .null, .null, .int 0])), (q7, .inl (cI, 40, .inl (fun _ => 0))), (q15, .inl (cI, 40, .inl (fun _ => 0))), (q23, .inl (cI, 40, .inl (fun _ => 0))), (q31, .inl (cI, 40, .inl (fun _ => 0))), (q39, .inl (cI, 40, .inl (fun _ => 0))), (q47, .inl (cI, 40, .inl (fun _ => 0))), (q55, .inl (cI, 40, .inl (fun _ => 0))), (q63, .inl (cI, 40, .inl (fun _ => 0))), (q71, .inl (cI, 40, .inl (fun _ => 0)))] := hD
  refine W.widen (k := 9) (n := 360) (Nat.le_of_ble_eq_true rfl) (Nat.le_of_ble_eq_true rfl) ?_
  refine va_putF (D := D) (ci := 0) (v := .ref q71) (ty := .array .int) (C := RX0) (T := TX0) (N := 12) hx hb hts (fun w h => List.mem_cons_of_mem _ (List.mem_append_right _ h)) tyX0 tyX0_ok nmX0 hown hK hP hD hS 0 rfl rfl 8 (by decide) (hts (.fieldLink RX0 36 "CashAllocator$BillBook" "disputed" "[I") (by decide +kernel)) (fun _ h9 => h9) rfl hin rfl (by decide +kernel) rfl rfl (Nat.le_of_ble_eq_true rfl) dX0_init_73 (fun H locs hP hD hS => ?_)
  have hP : va_P D vwCl [(h0, .inr (0, [.ref q7, .ref q15, .ref q23, .ref q31, .ref q39, .ref q47, .ref q55, .ref q63, .ref q71, .null, .null, .int 0])), (q7, .inl (cI, 40, .inl (fun _ => 0))), (q15, .inl (cI, 40, .inl (fun _ => 0))), (q23, .inl (cI, 40, .inl (fun _ => 0))), (q31, .inl (cI, 40, .inl (fun _ => 0))), (q39, .inl (cI, 40, .inl (fun _ => 0))), (q47, .inl (cI, 40, .inl (fun _ => 0))), (q55, .inl (cI, 40, .inl (fun _ => 0))), (q63, .inl (cI, 40, .inl (fun _ => 0))), (q71, .inl (cI, 40, .inl (fun _ => 0)))] H := hP
  have hD : va_D A [(h0, .inr (0, [.ref q7, .ref q15, .ref q23, .ref q31, .ref q39, .ref q47, .ref q55, .ref q63, .ref q71, .null, .null, .int 0])), (q7, .inl (cI, 40, .inl (fun _ => 0))), (q15, .inl (cI, 40, .inl (fun _ => 0))), (q23, .inl (cI, 40, .inl (fun _ => 0))), (q31, .inl (cI, 40, .inl (fun _ => 0))), (q39, .inl (cI, 40, .inl (fun _ => 0))), (q47, .inl (cI, 40, .inl (fun _ => 0))), (q55, .inl (cI, 40, .inl (fun _ => 0))), (q63, .inl (cI, 40, .inl (fun _ => 0))), (q71, .inl (cI, 40, .inl (fun _ => 0)))] := hD
  refine lv_aload_n hx hb dX0_init_76 rfl (lv_at hl 0 rfl) ?_
  refine lv_bipush (v := nI 40) hx hb dX0_init_77 (by decide) ?_
  refine va_newa (atype := .int) (ty := .int) (N' := 40) (a0 := (40, .inl (fun _ => 0))) hx hb (hts (.arrayClass .int) (by decide +kernel)) rfl hK hP hD hS hA (fun _ => rfl) (nI_pos (by omega)) (nI_clamp (by omega)) (by decide) (Nat.le_of_ble_eq_true rfl) (Nat.le_of_ble_eq_true rfl) dX0_init_79 (fun q79 cA H hK2 hP hD hS => ?_)
  obtain rfl : cI = cA := Option.some.inj ((hK.2 0 _ rfl).2.symm.trans (hK2.2 2 _ rfl).2)
  clear hK2
  have hP : va_P D vwCl [(h0, .inr (0, [.ref q7, .ref q15, .ref q23, .ref q31, .ref q39, .ref q47, .ref q55, .ref q63, .ref q71, .null, .null, .int 0])), (q7, .inl (cI, 40, .inl (fun _ => 0))), (q15, .inl (cI, 40, .inl (fun _ => 0))), (q23, .inl (cI, 40, .inl (fun _ => 0))), (q31, .inl (cI, 40, .inl (fun _ => 0))), (q39, .inl (cI, 40, .inl (fun _ => 0))), (q47, .inl (cI, 40, .inl (fun _ => 0))), (q55, .inl (cI, 40, .inl (fun _ => 0))), (q63, .inl (cI, 40, .inl (fun _ => 0))), (q71, .inl (cI, 40, .inl (fun _ => 0))), (q79, .inl (cI, 40, .inl (fun _ => 0)))] H := hP
  have hD : va_D A [(h0, .inr (0, [.ref q7, .ref q15, .ref q23, .ref q31, .ref q39, .ref q47, .ref q55, .ref q63, .ref q71, .null, .null, .int 0])), (q7, .inl (cI, 40, .inl (fun _ => 0))), (q15, .inl (cI, 40, .inl (fun _ => 0))), (q23, .inl (cI, 40, .inl (fun _ => 0))), (q31, .inl (cI, 40, .inl (fun _ => 0))), (q39, .inl (cI, 40, .inl (fun _ => 0))), (q47, .inl (cI, 40, .inl (fun _ => 0))), (q55, .inl (cI, 40, .inl (fun _ => 0))), (q63, .inl (cI, 40, .inl (fun _ => 0))), (q71, .inl (cI, 40, .inl (fun _ => 0))), (q79, .inl (cI, 40, .inl (fun _ => 0)))] := hD
  refine W.widen (k := 10) (n := 400) (Nat.le_of_ble_eq_true rfl) (Nat.le_of_ble_eq_true rfl) ?_
  refine va_putF (D := D) (ci := 0) (v := .ref q79) (ty := .array .int) (C := RX0) (T := TX0) (N := 12) hx hb hts (fun w h => List.mem_cons_of_mem _ (List.mem_append_right _ h)) tyX0 tyX0_ok nmX0 hown hK hP hD hS 0 rfl rfl 9 (by decide) (hts (.fieldLink RX0 39 "CashAllocator$BillBook" "disputedBy" "[I") (by decide +kernel)) (fun _ h9 => h9) rfl hin rfl (by decide +kernel) rfl rfl (Nat.le_of_ble_eq_true rfl) dX0_init_81 (fun H locs hP hD hS => ?_)
  have hP : va_P D vwCl [(h0, .inr (0, [.ref q7, .ref q15, .ref q23, .ref q31, .ref q39, .ref q47, .ref q55, .ref q63, .ref q71, .ref q79, .null, .int 0])), (q7, .inl (cI, 40, .inl (fun _ => 0))), (q15, .inl (cI, 40, .inl (fun _ => 0))), (q23, .inl (cI, 40, .inl (fun _ => 0))), (q31, .inl (cI, 40, .inl (fun _ => 0))), (q39, .inl (cI, 40, .inl (fun _ => 0))), (q47, .inl (cI, 40, .inl (fun _ => 0))), (q55, .inl (cI, 40, .inl (fun _ => 0))), (q63, .inl (cI, 40, .inl (fun _ => 0))), (q71, .inl (cI, 40, .inl (fun _ => 0))), (q79, .inl (cI, 40, .inl (fun _ => 0)))] H := hP
  have hD : va_D A [(h0, .inr (0, [.ref q7, .ref q15, .ref q23, .ref q31, .ref q39, .ref q47, .ref q55, .ref q63, .ref q71, .ref q79, .null, .int 0])), (q7, .inl (cI, 40, .inl (fun _ => 0))), (q15, .inl (cI, 40, .inl (fun _ => 0))), (q23, .inl (cI, 40, .inl (fun _ => 0))), (q31, .inl (cI, 40, .inl (fun _ => 0))), (q39, .inl (cI, 40, .inl (fun _ => 0))), (q47, .inl (cI, 40, .inl (fun _ => 0))), (q55, .inl (cI, 40, .inl (fun _ => 0))), (q63, .inl (cI, 40, .inl (fun _ => 0))), (q71, .inl (cI, 40, .inl (fun _ => 0))), (q79, .inl (cI, 40, .inl (fun _ => 0)))] := hD
  refine lv_aload_n hx hb dX0_init_84 rfl (lv_at hl 0 rfl) ?_
  refine lv_bipush (v := nI 40) hx hb dX0_init_85 (by decide) ?_
  refine va_newa (atype := .int) (ty := .int) (N' := 40) (a0 := (40, .inl (fun _ => 0))) hx hb (hts (.arrayClass .int) (by decide +kernel)) rfl hK hP hD hS hA (fun _ => rfl) (nI_pos (by omega)) (nI_clamp (by omega)) (by decide) (Nat.le_of_ble_eq_true rfl) (Nat.le_of_ble_eq_true rfl) dX0_init_87 (fun q87 cA H hK2 hP hD hS => ?_)
  obtain rfl : cI = cA := Option.some.inj ((hK.2 0 _ rfl).2.symm.trans (hK2.2 2 _ rfl).2)
  clear hK2
  have hP : va_P D vwCl [(h0, .inr (0, [.ref q7, .ref q15, .ref q23, .ref q31, .ref q39, .ref q47, .ref q55, .ref q63, .ref q71, .ref q79, .null, .int 0])), (q7, .inl (cI, 40, .inl (fun _ => 0))), (q15, .inl (cI, 40, .inl (fun _ => 0))), (q23, .inl (cI, 40, .inl (fun _ => 0))), (q31, .inl (cI, 40, .inl (fun _ => 0))), (q39, .inl (cI, 40, .inl (fun _ => 0))), (q47, .inl (cI, 40, .inl (fun _ => 0))), (q55, .inl (cI, 40, .inl (fun _ => 0))), (q63, .inl (cI, 40, .inl (fun _ => 0))), (q71, .inl (cI, 40, .inl (fun _ => 0))), (q79, .inl (cI, 40, .inl (fun _ => 0))), (q87, .inl (cI, 40, .inl (fun _ => 0)))] H := hP
  have hD : va_D A [(h0, .inr (0, [.ref q7, .ref q15, .ref q23, .ref q31, .ref q39, .ref q47, .ref q55, .ref q63, .ref q71, .ref q79, .null, .int 0])), (q7, .inl (cI, 40, .inl (fun _ => 0))), (q15, .inl (cI, 40, .inl (fun _ => 0))), (q23, .inl (cI, 40, .inl (fun _ => 0))), (q31, .inl (cI, 40, .inl (fun _ => 0))), (q39, .inl (cI, 40, .inl (fun _ => 0))), (q47, .inl (cI, 40, .inl (fun _ => 0))), (q55, .inl (cI, 40, .inl (fun _ => 0))), (q63, .inl (cI, 40, .inl (fun _ => 0))), (q71, .inl (cI, 40, .inl (fun _ => 0))), (q79, .inl (cI, 40, .inl (fun _ => 0))), (q87, .inl (cI, 40, .inl (fun _ => 0)))] := hD
  refine W.widen (k := 11) (n := 440) (Nat.le_of_ble_eq_true rfl) (Nat.le_of_ble_eq_true rfl) ?_
  refine va_putF (D := D) (ci := 0) (v := .ref q87) (ty := .array .int) (C := RX0) (T := TX0) (N := 12) hx hb hts (fun w h => List.mem_cons_of_mem _ (List.mem_append_right _ h)) tyX0 tyX0_ok nmX0 hown hK hP hD hS 0 rfl rfl 10 (by decide) (hts (.fieldLink RX0 42 "CashAllocator$BillBook" "writtenOff" "[I") (by decide +kernel)) (fun _ h9 => h9) rfl hin rfl (by decide +kernel) rfl rfl (Nat.le_of_ble_eq_true rfl) dX0_init_89 (fun H locs hP hD hS => ?_)
  have hP : va_P D vwCl [(h0, .inr (0, [.ref q7, .ref q15, .ref q23, .ref q31, .ref q39, .ref q47, .ref q55, .ref q63, .ref q71, .ref q79, .ref q87, .int 0])), (q7, .inl (cI, 40, .inl (fun _ => 0))), (q15, .inl (cI, 40, .inl (fun _ => 0))), (q23, .inl (cI, 40, .inl (fun _ => 0))), (q31, .inl (cI, 40, .inl (fun _ => 0))), (q39, .inl (cI, 40, .inl (fun _ => 0))), (q47, .inl (cI, 40, .inl (fun _ => 0))), (q55, .inl (cI, 40, .inl (fun _ => 0))), (q63, .inl (cI, 40, .inl (fun _ => 0))), (q71, .inl (cI, 40, .inl (fun _ => 0))), (q79, .inl (cI, 40, .inl (fun _ => 0))), (q87, .inl (cI, 40, .inl (fun _ => 0)))] H := hP
  have hD : va_D A [(h0, .inr (0, [.ref q7, .ref q15, .ref q23, .ref q31, .ref q39, .ref q47, .ref q55, .ref q63, .ref q71, .ref q79, .ref q87, .int 0])), (q7, .inl (cI, 40, .inl (fun _ => 0))), (q15, .inl (cI, 40, .inl (fun _ => 0))), (q23, .inl (cI, 40, .inl (fun _ => 0))), (q31, .inl (cI, 40, .inl (fun _ => 0))), (q39, .inl (cI, 40, .inl (fun _ => 0))), (q47, .inl (cI, 40, .inl (fun _ => 0))), (q55, .inl (cI, 40, .inl (fun _ => 0))), (q63, .inl (cI, 40, .inl (fun _ => 0))), (q71, .inl (cI, 40, .inl (fun _ => 0))), (q79, .inl (cI, 40, .inl (fun _ => 0))), (q87, .inl (cI, 40, .inl (fun _ => 0)))] := hD
  have hP : va_P D vwCl (wBB (fun k => ([0, h0, q7, q15, q23, q31, q39, q47, q55, q63, q71, q79, q87] : List Nat).getD k 0) cI z0) H := hP
  have hD : va_D A (wBB (fun k => ([0, h0, q7, q15, q23, q31, q39, q47, q55, q63, q71, q79, q87] : List Nat).getD k 0) cI z0) := hD
  exact W.vret hx hb hr (fun t ht hW => ⟨⟨(fun k => ([0, h0, q7, q15, q23, q31, q39, q47, q55, q63, q71, q79, q87] : List Nat).getD k 0), rfl, rfl, by rw [ht]; exact hP, va_K.moved hW.alike hK, hD⟩, hS.F ht⟩) hS.2.2 dX0_init_92
set_option maxHeartbeats 8000000 in
set_option maxRecDepth 100000 in
theorem c_X2_init (l : Launch) (D : va_G) (cI cZ : ClassId) (h0 : Nat) (sz : Nat) : Met l yX2_init wsX2_init ({ frames := 1, cells := 8, slots := 2580, locals := 12 } : Room) (va_Pc [.ref h0] (PreW D cI cZ [(h0, .inr (2, [.null, .null, .null, .null, .null, .null, .null, .null, .int 0]))] sz)) (va_Qv (fun (u : Nat → Nat) => u 13 = h0) (fun (u : Nat → Nat) => PostW D cI cZ (va_A [(h0, .inr (2, [.null, .null, .null, .null, .null, .null, .null, .null, .int 0]))] sz) (wRB u cI cZ z0)) (va_A [(h0, .inr (2, [.null, .null, .null, .null, .null, .null, .null, .null, .int 0]))] sz)) 8 2580 (va_A [(h0, .inr (2, [.null, .null, .null, .null, .null, .null, .null, .null, .int 0]))] sz) := by
  refine Met.ofW (cc := cX2_init) (maxL := 1) (ret := none) (by decide) rfl ?_
  intro p e s m args below meth c s₁ BB hml hv
  obtain ⟨rfl, hsz, hP, hK, hD0⟩ := hv
  have hx := BB.exec
  have hb := BB.bytes
  have hr := BB.returns
  have hts := atoms_spec (ws := wsX2_init) BB.pre
  have hown : s.vm.findClass RX2 = some m.cls := findClass_of_methodNamed BB.named
  have hlocks := BB.notSynchronized
  have hin : meth.name = "<init>" := (name_of_methodNamed BB.named BB.method).1
  clear BB
  subst hsz
  have hD := hD0.self (sz := s.heap.size)
  clear hD0
  generalize hAe : va_A [(h0, .inr (2, [.null, .null, .null, .null, .null, .null, .null, .null, .int 0]))] s.heap.size = A at hD ⊢
  have hA : ∀ q : Nat, s.heap.size ≤ q → A q := fun q h => by rw [← hAe]; exact Or.inr h
  clear hAe
  have hl := lv_entry ([.ref h0]) (n := 1) (Nat.le_of_ble_eq_true rfl)
  rw [lg_entry_eq]
  generalize (lg_sl ([.ref h0]) ++ List.replicate (1 - (lg_sl ([.ref h0])).length) Slot.unset).toArray = ls at hl ⊢
  have hl : lv_has ls 1 [(0, .ref h0)] := hl
  generalize hHe : s.heap = H at hP ⊢
  have hS : va_S A s.heap H [] := by rw [← hHe]; exact va_S.rf
  clear hHe
  generalize hLe : ([] : List Loc) = locs at hS ⊢
  clear hLe
  refine lv_aload_n hx hb dX2_init_0 rfl (lv_at hl 0 rfl) ?_
  refine W.objInit hx hb hown (hts (.methodLink RX2 3 objectInit) (by decide +kernel)) (hts (.instanceMethod objectInit) (by decide +kernel)) (hts (.code objectInit ⟨#[0xb1]⟩ 1 none) (by decide +kernel)) rfl (by rw [hml]; exact hl.1) rfl dX2_init_1 (Nat.le_of_ble_eq_true rfl) (Nat.le_of_ble_eq_true rfl) ?_
  refine W.eq (g2 := F0 m 4 ls []) rfl ?_
  refine lv_aload_n hx hb dX2_init_4 rfl (lv_at hl 0 rfl) ?_
  refine lv_bipush (v := nI 30) hx hb dX2_init_5 (by decide) ?_
  refine va_newa (atype := .int) (ty := .int) (N' := 30) (a0 := (30, .inl (fun _ => 0))) hx hb (hts (.arrayClass .int) (by decide +kernel)) rfl hK hP hD hS hA (fun _ => rfl) (nI_pos (by omega)) (nI_clamp (by omega)) (by decide) (Nat.le_of_ble_eq_true rfl) (Nat.le_of_ble_eq_true rfl) dX2_init_7 (fun q7 cA H hK2 hP hD hS => ?_)
  obtain rfl : cI = cA := Option.some.inj ((hK.2 0 _ rfl).2.symm.trans (hK2.2 2 _ rfl).2)
  clear hK2
  have hP : va_P D vwCl [(h0, .inr (2, [.null, .null, .null, .null, .null, .null, .null, .null, .int 0])), (q7, .inl (cI, 30, .inl (fun _ => 0)))] H := hP
  have hD : va_D A [(h0, .inr (2, [.null, .null, .null, .null, .null, .null, .null, .null, .int 0])), (q7, .inl (cI, 30, .inl (fun _ => 0)))] := hD
  refine W.widen (k := 1) (n := 30) (Nat.le_of_ble_eq_true rfl) (Nat.le_of_ble_eq_true rfl) ?_
  refine va_putF (D := D) (ci := 2) (v := .ref q7) (ty := .array .int) (C := RX2) (T := TX2) (N := 9) hx hb hts (fun w h => List.mem_cons_of_mem _ (List.mem_append_right _ h)) tyX2 tyX2_ok nmX2 hown hK hP hD hS 0 rfl rfl 0 (by decide) (hts (.fieldLink RX2 9 "CashAllocator$ReceiptBook" "customer" "[I") (by decide +kernel)) (fun _ h9 => h9) rfl hin rfl (by decide +kernel) rfl rfl (Nat.le_of_ble_eq_true rfl) dX2_init_9 (fun H locs hP hD hS => ?_)
  have hP : va_P D vwCl [(h0, .inr (2, [.ref q7, .null, .null, .null, .null, .null, .null, .null, .int 0])), (q7, .inl (cI, 30, .inl (fun _ => 0)))] H := hP
  have hD : va_D A [(h0, .inr (2, [.ref q7, .null, .null, .null, .null, .null, .null, .null, .int 0])), (q7, .inl (cI, 30, .inl (fun _ => 0)))] := hD
  refine lv_aload_n hx hb dX2_init_12 rfl (lv_at hl 0 rfl) ?_
  refine lv_bipush (v := nI 30) hx hb dX2_init_13 (by decide) ?_
  refine va_newa (atype := .int) (ty := .int) (N' := 30) (a0 := (30, .inl (fun _ => 0))) hx hb (hts (.arrayClass .int) (by decide +kernel)) rfl hK hP hD hS hA (fun _ => rfl) (nI_pos (by omega)) (nI_clamp (by omega)) (by decide) (Nat.le_of_ble_eq_true rfl) (Nat.le_of_ble_eq_true rfl) dX2_init_15 (fun q15 cA H hK2 hP hD hS => ?_)
  obtain rfl : cI = cA := Option.some.inj ((hK.2 0 _ rfl).2.symm.trans (hK2.2 2 _ rfl).2)
  clear hK2
  have hP : va_P D vwCl [(h0, .inr (2, [.ref q7, .null, .null, .null, .null, .null, .null, .null, .int 0])), (q7, .inl (cI, 30, .inl (fun _ => 0))), (q15, .inl (cI, 30, .inl (fun _ => 0)))] H := hP
  have hD : va_D A [(h0, .inr (2, [.ref q7, .null, .null, .null, .null, .null, .null, .null, .int 0])), (q7, .inl (cI, 30, .inl (fun _ => 0))), (q15, .inl (cI, 30, .inl (fun _ => 0)))] := hD
  refine W.widen (k := 2) (n := 60) (Nat.le_of_ble_eq_true rfl) (Nat.le_of_ble_eq_true rfl) ?_
  refine va_putF (D := D) (ci := 2) (v := .ref q15) (ty := .array .int) (C := RX2) (T := TX2) (N := 9) hx hb hts (fun w h => List.mem_cons_of_mem _ (List.mem_append_right _ h)) tyX2 tyX2_ok nmX2 hown hK hP hD hS 0 rfl rfl 1 (by decide) (hts (.fieldLink RX2 15 "CashAllocator$ReceiptBook" "amount" "[I") (by decide +kernel)) (fun _ h9 => h9) rfl hin rfl (by decide +kernel) rfl rfl (Nat.le_of_ble_eq_true rfl) dX2_init_17 (fun H locs hP hD hS => ?_)
  have hP : va_P D vwCl [(h0, .inr (2, [.ref q7, .ref q15, .null, .null, .null, .null, .null, .null, .int 0])), (q7, .inl (cI, 30, .inl (fun _ => 0))), (q15, .inl (cI, 30, .inl (fun _ => 0)))] H := hP
  have hD : va_D A [(h0, .inr (2, [.ref q7, .ref q15, .null, .null, .null, .null, .null, .null, .int 0])), (q7, .inl (cI, 30, .inl (fun _ => 0))), (q15, .inl (cI, 30, .inl (fun _ => 0)))] := hD
  refine lv_aload_n hx hb dX2_init_20 rfl (lv_at hl 0 rfl) ?_
  refine lv_bipush (v := nI 30) hx hb dX2_init_21 (by decide) ?_
  refine va_newa (atype := .int) (ty := .int) (N' := 30) (a0 := (30, .inl (fun _ => 0))) hx hb (hts (.arrayClass .int) (by decide +kernel)) rfl hK hP hD hS hA (fun _ => rfl) (nI_pos (by omega)) (nI_clamp (by omega)) (by decide) (Nat.le_of_ble_eq_true rfl) (Nat.le_of_ble_eq_true rfl) dX2_init_23 (fun q23 cA H hK2 hP hD hS => ?_)
  obtain rfl : cI = cA := Option.some.inj ((hK.2 0 _ rfl).2.symm.trans (hK2.2 2 _ rfl).2)
  clear hK2
  have hP : va_P D vwCl [(h0, .inr (2, [.ref q7, .ref q15, .null, .null, .null, .null, .null, .null, .int 0])), (q7, .inl (cI, 30, .inl (fun _ => 0))), (q15, .inl (cI, 30, .inl (fun _ => 0))), (q23, .inl (cI, 30, .inl (fun _ => 0)))] H := hP
  have hD : va_D A [(h0, .inr (2, [.ref q7, .ref q15, .null, .null, .null, .null, .null, .null, .int 0])), (q7, .inl (cI, 30, .inl (fun _ => 0))), (q15, .inl (cI, 30, .inl (fun _ => 0))), (q23, .inl (cI, 30, .inl (fun _ => 0)))] := hD
  refine W.widen (k := 3) (n := 90) (Nat.le_of_ble_eq_true rfl) (Nat.le_of_ble_eq_true rfl) ?_
  refine va_putF (D := D) (ci := 2) (v := .ref q23) (ty := .array .int) (C := RX2) (T := TX2) (N := 9) hx hb hts (fun w h => List.mem_cons_of_mem _ (List.mem_append_right _ h)) tyX2 tyX2_ok nmX2 hown hK hP hD hS 0 rfl rfl 2 (by decide) (hts (.fieldLink RX2 18 "CashAllocator$ReceiptBook" "applied" "[I") (by decide +kernel)) (fun _ h9 => h9) rfl hin rfl (by decide +kernel) rfl rfl (Nat.le_of_ble_eq_true rfl) dX2_init_25 (fun H locs hP hD hS => ?_)
  have hP : va_P D vwCl [(h0, .inr (2, [.ref q7, .ref q15, .ref q23, .null, .null, .null, .null, .null, .int 0])), (q7, .inl (cI, 30, .inl (fun _ => 0))), (q15, .inl (cI, 30, .inl (fun _ => 0))), (q23, .inl (cI, 30, .inl (fun _ => 0)))] H := hP
  have hD : va_D A [(h0, .inr (2, [.ref q7, .ref q15, .ref q23, .null, .null, .null, .null, .null, .int 0])), (q7, .inl (cI, 30, .inl (fun _ => 0))), (q15, .inl (cI, 30, .inl (fun _ => 0))), (q23, .inl (cI, 30, .inl (fun _ => 0)))] := hD
  refine lv_aload_n hx hb dX2_init_28 rfl (lv_at hl 0 rfl) ?_
  refine lv_bipush (v := nI 30) hx hb dX2_init_29 (by decide) ?_
  refine va_newa (atype := .int) (ty := .int) (N' := 30) (a0 := (30, .inl (fun _ => 0))) hx hb (hts (.arrayClass .int) (by decide +kernel)) rfl hK hP hD hS hA (fun _ => rfl) (nI_pos (by omega)) (nI_clamp (by omega)) (by decide) (Nat.le_of_ble_eq_true rfl) (Nat.le_of_ble_eq_true rfl) dX2_init_31 (fun q31 cA H hK2 hP hD hS => ?_)
  obtain rfl : cI = cA := Option.some.inj ((hK.2 0 _ rfl).2.symm.trans (hK2.2 2 _ rfl).2)
  clear hK2
  have hP : va_P D vwCl [(h0, .inr (2, [.ref q7, .ref q15, .ref q23, .null, .null, .null, .null, .null, .int 0])), (q7, .inl (cI, 30, .inl (fun _ => 0))), (q15, .inl (cI, 30, .inl (fun _ => 0))), (q23, .inl (cI, 30, .inl (fun _ => 0))), (q31, .inl (cI, 30, .inl (fun _ => 0)))] H := hP
  have hD : va_D A [(h0, .inr (2, [.ref q7, .ref q15, .ref q23, .null, .null, .null, .null, .null, .int 0])), (q7, .inl (cI, 30, .inl (fun _ => 0))), (q15, .inl (cI, 30, .inl (fun _ => 0))), (q23, .inl (cI, 30, .inl (fun _ => 0))), (q31, .inl (cI, 30, .inl (fun _ => 0)))] := hD
  refine W.widen (k := 4) (n := 120) (Nat.le_of_ble_eq_true rfl) (Nat.le_of_ble_eq_true rfl) ?_
  refine va_putF (D := D) (ci := 2) (v := .ref q31) (ty := .array .int) (C := RX2) (T := TX2) (N := 9) hx hb hts (fun w h => List.mem_cons_of_mem _ (List.mem_append_right _ h)) tyX2 tyX2_ok nmX2 hown hK hP hD hS 0 rfl rfl 3 (by decide) (hts (.fieldLink RX2 21 "CashAllocator$ReceiptBook" "unapplied" "[I") (by decide +kernel)) (fun _ h9 => h9) rfl hin rfl (by decide +kernel) rfl rfl (Nat.le_of_ble_eq_true rfl) dX2_init_33 (fun H locs hP hD hS => ?_)
  have hP : va_P D vwCl [(h0, .inr (2, [.ref q7, .ref q15, .ref q23, .ref q31, .null, .null, .null, .null, .int 0])), (q7, .inl (cI, 30, .inl (fun _ => 0))), (q15, .inl (cI, 30, .inl (fun _ => 0))), (q23, .inl (cI, 30, .inl (fun _ => 0))), (q31, .inl (cI, 30, .inl (fun _ => 0)))] H := hP
  have hD : va_D A [(h0, .inr (2, [.ref q7, .ref q15, .ref q23, .ref q31, .null, .null, .null, .null, .int 0])), (q7, .inl (cI, 30, .inl (fun _ => 0))), (q15, .inl (cI, 30, .inl (fun _ => 0))), (q23, .inl (cI, 30, .inl (fun _ => 0))), (q31, .inl (cI, 30, .inl (fun _ => 0)))] := hD
  refine lv_aload_n hx hb dX2_init_36 rfl (lv_at hl 0 rfl) ?_
  refine lv_bipush (v := nI 30) hx hb dX2_init_37 (by decide) ?_
  refine va_newa (atype := .int) (ty := .int) (N' := 30) (a0 := (30, .inl (fun _ => 0))) hx hb (hts (.arrayClass .int) (by decide +kernel)) rfl hK hP hD hS hA (fun _ => rfl) (nI_pos (by omega)) (nI_clamp (by omega)) (by decide) (Nat.le_of_ble_eq_true rfl) (Nat.le_of_ble_eq_true rfl) dX2_init_39 (fun q39 cA H hK2 hP hD hS => ?_)
  obtain rfl : cI = cA := Option.some.inj ((hK.2 0 _ rfl).2.symm.trans (hK2.2 2 _ rfl).2)
  clear hK2
  have hP : va_P D vwCl [(h0, .inr (2, [.ref q7, .ref q15, .ref q23, .ref q31, .null, .null, .null, .null, .int 0])), (q7, .inl (cI, 30, .inl (fun _ => 0))), (q15, .inl (cI, 30, .inl (fun _ => 0))), (q23, .inl (cI, 30, .inl (fun _ => 0))), (q31, .inl (cI, 30, .inl (fun _ => 0))), (q39, .inl (cI, 30, .inl (fun _ => 0)))] H := hP
  have hD : va_D A [(h0, .inr (2, [.ref q7, .ref q15, .ref q23, .ref q31, .null, .null, .null, .null, .int 0])), (q7, .inl (cI, 30, .inl (fun _ => 0))), (q15, .inl (cI, 30, .inl (fun _ => 0))), (q23, .inl (cI, 30, .inl (fun _ => 0))), (q31, .inl (cI, 30, .inl (fun _ => 0))), (q39, .inl (cI, 30, .inl (fun _ => 0)))] := hD
  refine W.widen (k := 5) (n := 150) (Nat.le_of_ble_eq_true rfl) (Nat.le_of_ble_eq_true rfl) ?_
  refine va_putF (D := D) (ci := 2) (v := .ref q39) (ty := .array .int) (C := RX2) (T := TX2) (N := 9) hx hb hts (fun w h => List.mem_cons_of_mem _ (List.mem_append_right _ h)) tyX2 tyX2_ok nmX2 hown hK hP hD hS 0 rfl rfl 4 (by decide) (hts (.fieldLink RX2 24 "CashAllocator$ReceiptBook" "paidBack" "[I") (by decide +kernel)) (fun _ h9 => h9) rfl hin rfl (by decide +kernel) rfl rfl (Nat.le_of_ble_eq_true rfl) dX2_init_41 (fun H locs hP hD hS => ?_)
  have hP : va_P D vwCl [(h0, .inr (2, [.ref q7, .ref q15, .ref q23, .ref q31, .ref q39, .null, .null, .null, .int 0])), (q7, .inl (cI, 30, .inl (fun _ => 0))), (q15, .inl (cI, 30, .inl (fun _ => 0))), (q23, .inl (cI, 30, .inl (fun _ => 0))), (q31, .inl (cI, 30, .inl (fun _ => 0))), (q39, .inl (cI, 30, .inl (fun _ => 0)))] H := hP
  have hD : va_D A [(h0, .inr (2, [.ref q7, .ref q15, .ref q23, .ref q31, .ref q39, .null, .null, .null, .int 0])), (q7, .inl (cI, 30, .inl (fun _ => 0))), (q15, .inl (cI, 30, .inl (fun _ => 0))), (q23, .inl (cI, 30, .inl (fun _ => 0))), (q31, .inl (cI, 30, .inl (fun _ => 0))), (q39, .inl (cI, 30, .inl (fun _ => 0)))] := hD
  refine lv_aload_n hx hb dX2_init_44 rfl (lv_at hl 0 rfl) ?_
  refine lv_bipush (v := nI 30) hx hb dX2_init_45 (by decide) ?_
  refine va_newa (atype := .boolean) (ty := .boolean) (N' := 30) (a0 := (30, .inl (fun _ => 0))) hx hb (hts (.arrayClass .boolean) (by decide +kernel)) rfl hK hP hD hS hA (fun _ => rfl) (nI_pos (by omega)) (nI_clamp (by omega)) (by decide) (Nat.le_of_ble_eq_true rfl) (Nat.le_of_ble_eq_true rfl) dX2_init_47 (fun q47 cA H hK2 hP hD hS => ?_)
  obtain rfl : cZ = cA := Option.some.inj ((hK.2 1 _ rfl).2.symm.trans (hK2.2 2 _ rfl).2)
  clear hK2
  have hP : va_P D vwCl [(h0, .inr (2, [.ref q7, .ref q15, .ref q23, .ref q31, .ref q39, .null, .null, .null, .int 0])), (q7, .inl (cI, 30, .inl (fun _ => 0))), (q15, .inl (cI, 30, .inl (fun _ => 0))), (q23, .inl (cI, 30, .inl (fun _ => 0))), (q31, .inl (cI, 30, .inl (fun _ => 0))), (q39, .inl (cI, 30, .inl (fun _ => 0))), (q47, .inl (cZ, 30, .inl (fun _ => 0)))] H := hP
  have hD : va_D A [(h0, .inr (2, [.ref q7, .ref q15, .ref q23, .ref q31, .ref q39, .null, .null, .null, .int 0])), (q7, .inl (cI, 30, .inl (fun _ => 0))), (q15, .inl (cI, 30, .inl (fun _ => 0))), (q23, .inl (cI, 30, .inl (fun _ => 0))), (q31, .inl (cI, 30, .inl (fun _ => 0))), (q39, .inl (cI, 30, .inl (fun _ => 0))), (q47, .inl (cZ, 30, .inl (fun _ => 0)))] := hD
  refine W.widen (k := 6) (n := 180) (Nat.le_of_ble_eq_true rfl) (Nat.le_of_ble_eq_true rfl) ?_
  refine va_putF (D := D) (ci := 2) (v := .ref q47) (ty := .array .boolean) (C := RX2) (T := TX2) (N := 9) hx hb hts (fun w h => List.mem_cons_of_mem _ (List.mem_append_right _ h)) tyX2 tyX2_ok nmX2 hown hK hP hD hS 0 rfl rfl 5 (by decide) (hts (.fieldLink RX2 27 "CashAllocator$ReceiptBook" "isBounced" "[Z") (by decide +kernel)) (fun _ h9 => h9) rfl hin rfl (by decide +kernel) rfl rfl (Nat.le_of_ble_eq_true rfl) dX2_init_49 (fun H locs hP hD hS => ?_)
  have hP : va_P D vwCl [(h0, .inr (2, [.ref q7, .ref q15, .ref q23, .ref q31, .ref q39, .ref q47, .null, .null, .int 0])), (q7, .inl (cI, 30, .inl (fun _ => 0))), (q15, .inl (cI, 30, .inl (fun _ => 0))), (q23, .inl (cI, 30, .inl (fun _ => 0))), (q31, .inl (cI, 30, .inl (fun _ => 0))), (q39, .inl (cI, 30, .inl (fun _ => 0))), (q47, .inl (cZ, 30, .inl (fun _ => 0)))] H := hP
  have hD : va_D A [(h0, .inr (2, [.ref q7, .ref q15, .ref q23, .ref q31, .ref q39, .ref q47, .null, .null, .int 0])), (q7, .inl (cI, 30, .inl (fun _ => 0))), (q15, .inl (cI, 30, .inl (fun _ => 0))), (q23, .inl (cI, 30, .inl (fun _ => 0))), (q31, .inl (cI, 30, .inl (fun _ => 0))), (q39, .inl (cI, 30, .inl (fun _ => 0))), (q47, .inl (cZ, 30, .inl (fun _ => 0)))] := hD
  refine lv_aload_n hx hb dX2_init_52 rfl (lv_at hl 0 rfl) ?_
  refine lv_sipush (v := nI 1200) hx hb dX2_init_53 (by decide) ?_
  refine va_newa (atype := .int) (ty := .int) (N' := 1200) (a0 := (1200, .inl (fun _ => 0))) hx hb (hts (.arrayClass .int) (by decide +kernel)) rfl hK hP hD hS hA (fun _ => rfl) (nI_pos (by omega)) (nI_clamp (by omega)) (by decide) (Nat.le_of_ble_eq_true rfl) (Nat.le_of_ble_eq_true rfl) dX2_init_56 (fun q56 cA H hK2 hP hD hS => ?_)
  obtain rfl : cI = cA := Option.some.inj ((hK.2 0 _ rfl).2.symm.trans (hK2.2 2 _ rfl).2)
  clear hK2
  have hP : va_P D vwCl [(h0, .inr (2, [.ref q7, .ref q15, .ref q23, .ref q31, .ref q39, .ref q47, .null, .null, .int 0])), (q7, .inl (cI, 30, .inl (fun _ => 0))), (q15, .inl (cI, 30, .inl (fun _ => 0))), (q23, .inl (cI, 30, .inl (fun _ => 0))), (q31, .inl (cI, 30, .inl (fun _ => 0))), (q39, .inl (cI, 30, .inl (fun _ => 0))), (q47, .inl (cZ, 30, .inl (fun _ => 0))), (q56, .inl (cI, 1200, .inl (fun _ => 0)))] H := hP
  have hD : va_D A [(h0, .inr (2, [.ref q7, .ref q15, .ref q23, .ref q31, .ref q39, .ref q47, .null, .null, .int 0])), (q7, .inl (cI, 30, .inl (fun _ => 0))), (q15, .inl (cI, 30, .inl (fun _ => 0))), (q23, .inl (cI, 30, .inl (fun _ => 0))), (q31, .inl (cI, 30, .inl (fun _ => 0))), (q39, .inl (cI, 30, .inl (fun _ => 0))), (q47, .inl (cZ, 30, .inl (fun _ => 0))), (q56, .inl (cI, 1200, .inl (fun _ => 0)))] := hD
  refine W.widen (k := 7) (n := 1380) (Nat.le_of_ble_eq_true rfl) (Nat.le_of_ble_eq_true rfl) ?_
  refine va_putF (D := D) (ci := 2) (v := .ref q56) (ty := .array .int) (C := RX2) (T := TX2) (N := 9) hx hb hts (fun w h => List.mem_cons_of_mem _ (List.mem_append_right _ h)) tyX2 tyX2_ok nmX2 hown hK hP hD hS 0 rfl rfl 6 (by decide) (hts (.fieldLink RX2 31 "CashAllocator$ReceiptBook" "sums" "[I") (by decide +kernel)) (fun _ h9 => h9) rfl hin rfl (by decide +kernel) rfl rfl (Nat.le_of_ble_eq_true rfl) dX2_init_58 (fun H locs hP hD hS => ?_)
  have hP : va_P D vwCl [(h0, .inr (2, [.ref q7, .ref q15, .ref q23, .ref q31, .ref q39, .ref q47, .ref q56, .null, .int 0])), (q7, .inl (cI, 30, .inl (fun _ => 0))), (q15, .inl (cI, 30, .inl (fun _ => 0))), (q23, .inl (cI, 30, .inl (fun _ => 0))), (q31, .inl (cI, 30, .inl (fun _ => 0))), (q39, .inl (cI, 30, .inl (fun _ => 0))), (q47, .inl (cZ, 30, .inl (fun _ => 0))), (q56, .inl (cI, 1200, .inl (fun _ => 0)))] H := hP
  have hD : va_D A [(h0, .inr (2, [.ref q7, .ref q15, .ref q23, .ref q31, .ref q39, .ref q47, .ref q56, .null, .int 0])), (q7, .inl (cI, 30, .inl (fun _ => 0))), (q15, .inl (cI, 30, .inl (fun _ => 0))), (q23, .inl (cI, 30, .inl (fun _ => 0))), (q31, .inl (cI, 30, .inl (fun _ => 0))), (q39, .inl (cI, 30, .inl (fun _ => 0))), (q47, .inl (cZ, 30, .inl (fun _ => 0))), (q56, .inl (cI, 1200, .inl (fun _ => 0)))] := hD
  refine lv_aload_n hx hb dX2_init_61 rfl (lv_at hl 0 rfl) ?_
  refine lv_sipush (v := nI 1200) hx hb dX2_init_62 (by decide) ?_
  refine va_newa (atype := .boolean) (ty := .boolean) (N' := 1200) (a0 := (1200, .inl (fun _ => 0))) hx hb (hts (.arrayClass .boolean) (by decide +kernel)) rfl hK hP hD hS hA (fun _ => rfl) (nI_pos (by omega)) (nI_clamp (by omega)) (by decide) (Nat.le_of_ble_eq_true rfl) (Nat.le_of_ble_eq_true rfl) dX2_init_65 (fun q65 cA H hK2 hP hD hS => ?_)
  obtain rfl : cZ = cA := Option.some.inj ((hK.2 1 _ rfl).2.symm.trans (hK2.2 2 _ rfl).2)
  clear hK2
  have hP : va_P D vwCl [(h0, .inr (2, [.ref q7, .ref q15, .ref q23, .ref q31, .ref q39, .ref q47, .ref q56, .null, .int 0])), (q7, .inl (cI, 30, .inl (fun _ => 0))), (q15, .inl (cI, 30, .inl (fun _ => 0))), (q23, .inl (cI, 30, .inl (fun _ => 0))), (q31, .inl (cI, 30, .inl (fun _ => 0))), (q39, .inl (cI, 30, .inl (fun _ => 0))), (q47, .inl (cZ, 30, .inl (fun _ => 0))), (q56, .inl (cI, 1200, .inl (fun _ => 0))), (q65, .inl (cZ, 1200, .inl (fun _ => 0)))] H := hP
  have hD : va_D A [(h0, .inr (2, [.ref q7, .ref q15, .ref q23, .ref q31, .ref q39, .ref q47, .ref q56, .null, .int 0])), (q7, .inl (cI, 30, .inl (fun _ => 0))), (q15, .inl (cI, 30, .inl (fun _ => 0))), (q23, .inl (cI, 30, .inl (fun _ => 0))), (q31, .inl (cI, 30, .inl (fun _ => 0))), (q39, .inl (cI, 30, .inl (fun _ => 0))), (q47, .inl (cZ, 30, .inl (fun _ => 0))), (q56, .inl (cI, 1200, .inl (fun _ => 0))), (q65, .inl (cZ, 1200, .inl (fun _ => 0)))] := hD
  refine W.widen (k := 8) (n := 2580) (Nat.le_of_ble_eq_true rfl) (Nat.le_of_ble_eq_true rfl) ?_
  refine va_putF (D := D) (ci := 2) (v := .ref q65) (ty := .array .boolean) (C := RX2) (T := TX2) (N := 9) hx hb hts (fun w h => List.mem_cons_of_mem _ (List.mem_append_right _ h)) tyX2 tyX2_ok nmX2 hown hK hP hD hS 0 rfl rfl 7 (by decide) (hts (.fieldLink RX2 34 "CashAllocator$ReceiptBook" "hasSum" "[Z") (by decide +kernel)) (fun _ h9 => h9) rfl hin rfl (by decide +kernel) rfl rfl (Nat.le_of_ble_eq_true rfl) dX2_init_67 (fun H locs hP hD hS => ?_)
  have hP : va_P D vwCl [(h0, .inr (2, [.ref q7, .ref q15, .ref q23, .ref q31, .ref q39, .ref q47, .ref q56, .ref q65, .int 0])), (q7, .inl (cI, 30, .inl (fun _ => 0))), (q15, .inl (cI, 30, .inl (fun _ => 0))), (q23, .inl (cI, 30, .inl (fun _ => 0))), (q31, .inl (cI, 30, .inl (fun _ => 0))), (q39, .inl (cI, 30, .inl (fun _ => 0))), (q47, .inl (cZ, 30, .inl (fun _ => 0))), (q56, .inl (cI, 1200, .inl (fun _ => 0))), (q65, .inl (cZ, 1200, .inl (fun _ => 0)))] H := hP
  have hD : va_D A [(h0, .inr (2, [.ref q7, .ref q15, .ref q23, .ref q31, .ref q39, .ref q47, .ref q56, .ref q65, .int 0])), (q7, .inl (cI, 30, .inl (fun _ => 0))), (q15, .inl (cI, 30, .inl (fun _ => 0))), (q23, .inl (cI, 30, .inl (fun _ => 0))), (q31, .inl (cI, 30, .inl (fun _ => 0))), (q39, .inl (cI, 30, .inl (fun _ => 0))), (q47, .inl (cZ, 30, .inl (fun _ => 0))), (q56, .inl (cI, 1200, .inl (fun _ => 0))), (q65, .inl (cZ, 1200, .inl (fun _ => 0)))] := hD
  have hP : va_P D vwCl (wRB (fun k => ([0, 0, 0, 0, 0, 0, 0, 0, 0, 0, 0, 0, 0, h0, q7, q15, q23, q31, q39, q47, q56, q65] : List Nat).getD k 0) cI cZ z0) H := hP
  have hD : va_D A (wRB (fun k => ([0, 0, 0, 0, 0, 0, 0, 0, 0, 0, 0, 0, 0, h0, q7, q15, q23, q31, q39, q47, q56, q65] : List Nat).getD k 0) cI cZ z0) := hD
  exact W.vret hx hb hr (fun t ht hW => ⟨⟨(fun k => ([0, 0, 0, 0, 0, 0, 0, 0, 0, 0, 0, 0, 0, h0, q7, q15, q23, q31, q39, q47, q56, q65] : List Nat).getD k 0), rfl, rfl, by rw [ht]; exact hP, va_K.moved hW.alike hK, hD⟩, hS.F ht⟩) hS.2.2 dX2_init_70
set_option maxHeartbeats 8000000 in
set_option maxRecDepth 100000 in
theorem c_X1_init (l : Launch) (D : va_G) (cI cZ : ClassId) (h0 : Nat) (sz : Nat) : Met l yX1_init wsX1_init ({ frames := 1, cells := 3, slots := 83, locals := 12 } : Room) (va_Pc [.ref h0] (PreW D cI cZ [(h0, .inr (1, [.null, .null, .null, .int 0]))] sz)) (va_Qv (fun (u : Nat → Nat) => u 22 = h0) (fun (u : Nat → Nat) => PostW D cI cZ (va_A [(h0, .inr (1, [.null, .null, .null, .int 0]))] sz) (wES u cI z0)) (va_A [(h0, .inr (1, [.null, .null, .null, .int 0]))] sz)) 3 83 (va_A [(h0, .inr (1, [.null, .null, .null, .int 0]))] sz) := by
  refine Met.ofW (cc := cX1_init) (maxL := 1) (ret := none) (by decide) rfl ?_
  intro p e s m args below meth c s₁ BB hml hv
  obtain ⟨rfl, hsz, hP, hK, hD0⟩ := hv
  have hx := BB.exec
  have hb := BB.bytes
  have hr := BB.returns
  have hts := atoms_spec (ws := wsX1_init) BB.pre
  have hown : s.vm.findClass RX1 = some m.cls := findClass_of_methodNamed BB.named
  have hlocks := BB.notSynchronized
  have hin : meth.name = "<init>" := (name_of_methodNamed BB.named BB.method).1
  clear BB
  subst hsz
  have hD := hD0.self (sz := s.heap.size)
  clear hD0
  generalize hAe : va_A [(h0, .inr (1, [.null, .null, .null, .int 0]))] s.heap.size = A at hD ⊢
  have hA : ∀ q : Nat, s.heap.size ≤ q → A q := fun q h => by rw [← hAe]; exact Or.inr h
  clear hAe
  have hl := lv_entry ([.ref h0]) (n := 1) (Nat.le_of_ble_eq_true rfl)
  rw [lg_entry_eq]
  generalize (lg_sl ([.ref h0]) ++ List.replicate (1 - (lg_sl ([.ref h0])).length) Slot.unset).toArray = ls at hl ⊢
  have hl : lv_has ls 1 [(0, .ref h0)] := hl
  generalize hHe : s.heap = H at hP ⊢
  have hS : va_S A s.heap H [] := by rw [← hHe]; exact va_S.rf
  clear hHe
  generalize hLe : ([] : List Loc) = locs at hS ⊢
  clear hLe
  refine lv_aload_n hx hb dX1_init_0 rfl (lv_at hl 0 rfl) ?_
  refine W.objInit hx hb hown (hts (.methodLink RX1 3 objectInit) (by decide +kernel)) (hts (.instanceMethod objectInit) (by decide +kernel)) (hts (.code objectInit ⟨#[0xb1]⟩ 1 none) (by decide +kernel)) rfl (by rw [hml]; exact hl.1) rfl dX1_init_1 (Nat.le_of_ble_eq_true rfl) (Nat.le_of_ble_eq_true rfl) ?_
  refine W.eq (g2 := F0 m 4 ls []) rfl ?_
  refine lv_aload_n hx hb dX1_init_4 rfl (lv_at hl 0 rfl) ?_
  refine lv_bipush (v := nI 40) hx hb dX1_init_5 (by decide) ?_
  refine va_newa (atype := .int) (ty := .int) (N' := 40) (a0 := (40, .inl (fun _ => 0))) hx hb (hts (.arrayClass .int) (by decide +kernel)) rfl hK hP hD hS hA (fun _ => rfl) (nI_pos (by omega)) (nI_clamp (by omega)) (by decide) (Nat.le_of_ble_eq_true rfl) (Nat.le_of_ble_eq_true rfl) dX1_init_7 (fun q7 cA H hK2 hP hD hS => ?_)
  obtain rfl : cI = cA := Option.some.inj ((hK.2 0 _ rfl).2.symm.trans (hK2.2 2 _ rfl).2)
  clear hK2
  have hP : va_P D vwCl [(h0, .inr (1, [.null, .null, .null, .int 0])), (q7, .inl (cI, 40, .inl (fun _ => 0)))] H := hP
  have hD : va_D A [(h0, .inr (1, [.null, .null, .null, .int 0])), (q7, .inl (cI, 40, .inl (fun _ => 0)))] := hD
  refine W.widen (k := 1) (n := 40) (Nat.le_of_ble_eq_true rfl) (Nat.le_of_ble_eq_true rfl) ?_
  refine va_putF (D := D) (ci := 1) (v := .ref q7) (ty := .array .int) (C := RX1) (T := TX1) (N := 4) hx hb hts (fun w h => List.mem_cons_of_mem _ (List.mem_append_right _ h)) tyX1 tyX1_ok nmX1 hown hK hP hD hS 0 rfl rfl 0 (by decide) (hts (.fieldLink RX1 9 "CashAllocator$ExactSet" "offered" "[I") (by decide +kernel)) (fun _ h9 => h9) rfl hin rfl (by decide +kernel) rfl rfl (Nat.le_of_ble_eq_true rfl) dX1_init_9 (fun H locs hP hD hS => ?_)
  have hP : va_P D vwCl [(h0, .inr (1, [.ref q7, .null, .null, .int 0])), (q7, .inl (cI, 40, .inl (fun _ => 0)))] H := hP
  have hD : va_D A [(h0, .inr (1, [.ref q7, .null, .null, .int 0])), (q7, .inl (cI, 40, .inl (fun _ => 0)))] := hD
  refine lv_aload_n hx hb dX1_init_12 rfl (lv_at hl 0 rfl) ?_
  refine lv_bipush (v := nI 40) hx hb dX1_init_13 (by decide) ?_
  refine va_newa (atype := .int) (ty := .int) (N' := 40) (a0 := (40, .inl (fun _ => 0))) hx hb (hts (.arrayClass .int) (by decide +kernel)) rfl hK hP hD hS hA (fun _ => rfl) (nI_pos (by omega)) (nI_clamp (by omega)) (by decide) (Nat.le_of_ble_eq_true rfl) (Nat.le_of_ble_eq_true rfl) dX1_init_15 (fun q15 cA H hK2 hP hD hS => ?_)
  obtain rfl : cI = cA := Option.some.inj ((hK.2 0 _ rfl).2.symm.trans (hK2.2 2 _ rfl).2)
  clear hK2
  have hP : va_P D vwCl [(h0, .inr (1, [.ref q7, .null, .null, .int 0])), (q7, .inl (cI, 40, .inl (fun _ => 0))), (q15, .inl (cI, 40, .inl (fun _ => 0)))] H := hP
  have hD : va_D A [(h0, .inr (1, [.ref q7, .null, .null, .int 0])), (q7, .inl (cI, 40, .inl (fun _ => 0))), (q15, .inl (cI, 40, .inl (fun _ => 0)))] := hD
  refine W.widen (k := 2) (n := 80) (Nat.le_of_ble_eq_true rfl) (Nat.le_of_ble_eq_true rfl) ?_
  refine va_putF (D := D) (ci := 1) (v := .ref q15) (ty := .array .int) (C := RX1) (T := TX1) (N := 4) hx hb hts (fun w h => List.mem_cons_of_mem _ (List.mem_append_right _ h)) tyX1 tyX1_ok nmX1 hown hK hP hD hS 0 rfl rfl 1 (by decide) (hts (.fieldLink RX1 15 "CashAllocator$ExactSet" "dues" "[I") (by decide +kernel)) (fun _ h9 => h9) rfl hin rfl (by decide +kernel) rfl rfl (Nat.le_of_ble_eq_true rfl) dX1_init_17 (fun H locs hP hD hS => ?_)
  have hP : va_P D vwCl [(h0, .inr (1, [.ref q7, .ref q15, .null, .int 0])), (q7, .inl (cI, 40, .inl (fun _ => 0))), (q15, .inl (cI, 40, .inl (fun _ => 0)))] H := hP
  have hD : va_D A [(h0, .inr (1, [.ref q7, .ref q15, .null, .int 0])), (q7, .inl (cI, 40, .inl (fun _ => 0))), (q15, .inl (cI, 40, .inl (fun _ => 0)))] := hD
  refine lv_aload_n hx hb dX1_init_20 rfl (lv_at hl 0 rfl) ?_
  refine lv_iconst (v := nI 3) hx hb dX1_init_21 (by decide) ?_
  refine va_newa (atype := .int) (ty := .int) (N' := 3) (a0 := (3, .inl (fun _ => 0))) hx hb (hts (.arrayClass .int) (by decide +kernel)) rfl hK hP hD hS hA (fun _ => rfl) (nI_pos (by omega)) (nI_clamp (by omega)) (by decide) (Nat.le_of_ble_eq_true rfl) (Nat.le_of_ble_eq_true rfl) dX1_init_22 (fun q22 cA H hK2 hP hD hS => ?_)
  obtain rfl : cI = cA := Option.some.inj ((hK.2 0 _ rfl).2.symm.trans (hK2.2 2 _ rfl).2)
  clear hK2
  have hP : va_P D vwCl [(h0, .inr (1, [.ref q7, .ref q15, .null, .int 0])), (q7, .inl (cI, 40, .inl (fun _ => 0))), (q15, .inl (cI, 40, .inl (fun _ => 0))), (q22, .inl (cI, 3, .inl (fun _ => 0)))] H := hP
  have hD : va_D A [(h0, .inr (1, [.ref q7, .ref q15, .null, .int 0])), (q7, .inl (cI, 40, .inl (fun _ => 0))), (q15, .inl (cI, 40, .inl (fun _ => 0))), (q22, .inl (cI, 3, .inl (fun _ => 0)))] := hD
  refine W.widen (k := 3) (n := 83) (Nat.le_of_ble_eq_true rfl) (Nat.le_of_ble_eq_true rfl) ?_
  refine va_putF (D := D) (ci := 1) (v := .ref q22) (ty := .array .int) (C := RX1) (T := TX1) (N := 4) hx hb hts (fun w h => List.mem_cons_of_mem _ (List.mem_append_right _ h)) tyX1 tyX1_ok nmX1 hown hK hP hD hS 0 rfl rfl 2 (by decide) (hts (.fieldLink RX1 18 "CashAllocator$ExactSet" "chosen" "[I") (by decide +kernel)) (fun _ h9 => h9) rfl hin rfl (by decide +kernel) rfl rfl (Nat.le_of_ble_eq_true rfl) dX1_init_24 (fun H locs hP hD hS => ?_)
  have hP : va_P D vwCl [(h0, .inr (1, [.ref q7, .ref q15, .ref q22, .int 0])), (q7, .inl (cI, 40, .inl (fun _ => 0))), (q15, .inl (cI, 40, .inl (fun _ => 0))), (q22, .inl (cI, 3, .inl (fun _ => 0)))] H := hP
  have hD : va_D A [(h0, .inr (1, [.ref q7, .ref q15, .ref q22, .int 0])), (q7, .inl (cI, 40, .inl (fun _ => 0))), (q15, .inl (cI, 40, .inl (fun _ => 0))), (q22, .inl (cI, 3, .inl (fun _ => 0)))] := hD
  have hP : va_P D vwCl (wES (fun k => ([0, 0, 0, 0, 0, 0, 0, 0, 0, 0, 0, 0, 0, 0, 0, 0, 0, 0, 0, 0, 0, 0, h0, q7, q15, q22] : List Nat).getD k 0) cI z0) H := hP
  have hD : va_D A (wES (fun k => ([0, 0, 0, 0, 0, 0, 0, 0, 0, 0, 0, 0, 0, 0, 0, 0, 0, 0, 0, 0, 0, 0, h0, q7, q15, q22] : List Nat).getD k 0) cI z0) := hD
  exact W.vret hx hb hr (fun t ht hW => ⟨⟨(fun k => ([0, 0, 0, 0, 0, 0, 0, 0, 0, 0, 0, 0, 0, 0, 0, 0, 0, 0, 0, 0, 0, 0, h0, q7, q15, q22] : List Nat).getD k 0), rfl, rfl, by rw [ht]; exact hP, va_K.moved hW.alike hK, hD⟩, hS.F ht⟩) hS.2.2 dX1_init_27
set_option maxHeartbeats 8000000 in
set_option maxRecDepth 100000 in
theorem c_X3_init (l : Launch) (D : va_G) (cI cZ : ClassId) (h0 : Nat) (sz : Nat) : Met l yX3_init wsX3_init ({ frames := 2, cells := 25, slots := 3128, locals := 40 } : Room) (va_Pc [.ref h0] (PreN D cI cZ [(h0, .inr (3, [.null, .null, .null, .int 0]))] sz)) (va_Qv (fun (u : Nat → Nat) => u 0 = h0) (fun (u : Nat → Nat) => PostW D cI cZ (va_A [(h0, .inr (3, [.null, .null, .null, .int 0]))] sz) (wCA u cI cZ z0 z0 z0 0)) (va_A [(h0, .inr (3, [.null, .null, .null, .int 0]))] sz)) 25 3128 (va_A [(h0, .inr (3, [.null, .null, .null, .int 0]))] sz) := by
  refine Met.ofW (cc := cX3_init) (maxL := 1) (ret := none) (by decide) rfl ?_
  intro p e s m args below meth c s₁ BB hml hv
  obtain ⟨rfl, ⟨hsz, hP, hK, hD0⟩, hN⟩ := hv
  have hx := BB.exec
  have hb := BB.bytes
  have hr := BB.returns
  have hts := atoms_spec (ws := wsX3_init) BB.pre
  have hown : s.vm.findClass RX3 = some m.cls := findClass_of_methodNamed BB.named
  have hlocks := BB.notSynchronized
  have hin : meth.name = "<init>" := (name_of_methodNamed BB.named BB.method).1
  clear BB
  subst hsz
  have hD := hD0.self (sz := s.heap.size)
  clear hD0
  generalize hAe : va_A [(h0, .inr (3, [.null, .null, .null, .int 0]))] s.heap.size = A at hD ⊢
  have hA : ∀ q : Nat, s.heap.size ≤ q → A q := fun q h => by rw [← hAe]; exact Or.inr h
  clear hAe
  have hl := lv_entry ([.ref h0]) (n := 1) (Nat.le_of_ble_eq_true rfl)
  rw [lg_entry_eq]
  generalize (lg_sl ([.ref h0]) ++ List.replicate (1 - (lg_sl ([.ref h0])).length) Slot.unset).toArray = ls at hl ⊢
  have hl : lv_has ls 1 [(0, .ref h0)] := hl
  generalize hHe : s.heap = H at hP ⊢
  have hS : va_S A s.heap H [] := by rw [← hHe]; exact va_S.rf
  clear hHe
  generalize hLe : ([] : List Loc) = locs at hS ⊢
  clear hLe
  refine lv_aload_n hx hb dX3_init_0 rfl (lv_at hl 0 rfl) ?_
  refine W.objInit hx hb hown (hts (.methodLink RX3 1 objectInit) (by decide +kernel)) (hts (.instanceMethod objectInit) (by decide +kernel)) (hts (.code objectInit ⟨#[0xb1]⟩ 1 none) (by decide +kernel)) rfl (by rw [hml]; exact hl.1) rfl dX3_init_1 (Nat.le_of_ble_eq_true rfl) (Nat.le_of_ble_eq_true rfl) ?_
  refine W.eq (g2 := F0 m 4 ls []) rfl ?_
  obtain ⟨hn0, hn2, hn1⟩ := hN
  refine lv_aload_n hx hb dX3_init_4 rfl (lv_at hl 0 rfl) ?_
  refine va_new (ci := 0) (fs := [.null, .null, .null, .null, .null, .null, .null, .null, .null, .null, .null, .int 0]) (C := RX0) (T := TX0) (N := 12) hx hb hts (fun w h => List.mem_cons_of_mem _ (List.mem_append_left _ (List.mem_append_left _ (List.mem_append_left _ (List.mem_append_right _ h))))) tyX0 tyX0_ok hown (hts (.classLink RX3 7 RX0) (by decide +kernel)) (hts (.instantiable RX0 12) (by decide +kernel)) (hts (.initialized RX0) (by decide +kernel)) hK hP hD hS hA rfl (fun j hj => by rcases (show j = 0 ∨ j = 1 ∨ j = 2 ∨ j = 3 ∨ j = 4 ∨ j = 5 ∨ j = 6 ∨ j = 7 ∨ j = 8 ∨ j = 9 ∨ j = 10 ∨ j = 11 by omega) with rfl | rfl | rfl | rfl | rfl | rfl | rfl | rfl | rfl | rfl | rfl | rfl <;> rfl) (Nat.le_of_ble_eq_true rfl) (Nat.le_of_ble_eq_true rfl) dX3_init_5 (fun q5 H hP hD hS => ?_)
  have hP : va_P D vwCl ((h0, .inr (3, [.null, .null, .null, .int 0])) :: ([(q5, .inr (0, [.null, .null, .null, .null, .null, .null, .null, .null, .null, .null, .null, .int 0]))])) H := hP
  have hD : va_D A ((h0, .inr (3, [.null, .null, .null, .int 0])) :: ([(q5, .inr (0, [.null, .null, .null, .null, .null, .null, .null, .null, .null, .null, .null, .int 0]))])) := hD
  refine W.widen (k := 1) (n := 12) (Nat.le_of_ble_eq_true rfl) (Nat.le_of_ble_eq_true rfl) ?_
  refine lv_dup hx hb dX3_init_8 rfl ?_
  have zz : ZW D A s.heap ((h0, .inr (3, [.null, .null, .null, .int 0])) :: ([(q5, .inr (0, [.null, .null, .null, .null, .null, .null, .null, .null, .null, .null, .null, .int 0]))])) [(q5, .inr (0, [.null, .null, .null, .null, .null, .null, .null, .null, .null, .null, .null, .int 0]))] ((h0, .inr (3, [.null, .null, .null, .int 0])) :: (([] : va_W))) H locs [1] (List.range 1) := ⟨hP, hD, hS, hA, by decide, by decide, by decide, rfl, rfl⟩
  refine zcIN (b := q5) (wf := fun (u : Nat → Nat) => ((h0, .inr (3, [.null, .null, .null, .int 0])) :: ((wBB u cI z0)))) (List.range 13) ⟨hx, hb, hml, hown, hts⟩ zz hK (c_X0_init l D cI cZ q5 H.size) ⟨va_cnB (host := "CashAllocator") 0 hts ggX3_init_X0_init rfl rfl rfl hn0 (hts (.initialized RX0) (by decide +kernel)) (by decide +kernel) ⟨Nat.le_of_ble_eq_true rfl, Nat.le_of_ble_eq_true rfl⟩, rfl, hts (.instanceMethod yX0_init) (by decide +kernel)⟩ (by decide) (fun _ => rfl) rfl hl.1 rfl (Nat.le_of_ble_eq_true rfl) dX3_init_9 ⟨Nat.le_of_ble_eq_true rfl, Nat.le_of_ble_eq_true rfl⟩ (fun u5 H locs hu5 hP hD hS => ?_)
  have hP : va_P D vwCl ((h0, .inr (3, [.null, .null, .null, .int 0])) :: ((wBB u5 cI z0))) H := hP
  have hD : va_D A ((h0, .inr (3, [.null, .null, .null, .int 0])) :: ((wBB u5 cI z0))) := hD
  refine W.widen (k := 12) (n := 452) (Nat.le_of_ble_eq_true rfl) (Nat.le_of_ble_eq_true rfl) ?_
  refine va_putF (D := D) (ci := 3) (v := .ref q5) (ty := .object "CashAllocator$BillBook") (C := RX3) (T := TX3) (N := 4) hx hb hts (fun w h => List.mem_cons_of_mem _ (List.mem_append_left _ (List.mem_append_left _ (List.mem_append_right _ h)))) tyX3 tyX3_ok nmX3 hown hK hP hD hS 0 rfl rfl 0 (by decide) (hts (.fieldLink RX3 10 "CashAllocator" "billBook" "LCashAllocator$BillBook;") (by decide +kernel)) (fun _ h9 => h9) rfl hin rfl (by decide +kernel) rfl rfl (Nat.le_of_ble_eq_true rfl) dX3_init_12 (fun H locs hP hD hS => ?_)
  have hP : va_P D vwCl ((h0, .inr (3, [.ref q5, .null, .null, .int 0])) :: ((wBB u5 cI z0))) H := hP
  have hD : va_D A ((h0, .inr (3, [.ref q5, .null, .null, .int 0])) :: ((wBB u5 cI z0))) := hD
  refine lv_aload_n hx hb dX3_init_15 rfl (lv_at hl 0 rfl) ?_
  refine va_new (ci := 2) (fs := [.null, .null, .null, .null, .null, .null, .null, .null, .int 0]) (C := RX2) (T := TX2) (N := 9) hx hb hts (fun w h => List.mem_cons_of_mem _ (List.mem_append_left _ (List.mem_append_right _ h))) tyX2 tyX2_ok hown (hts (.classLink RX3 16 RX2) (by decide +kernel)) (hts (.instantiable RX2 9) (by decide +kernel)) (hts (.initialized RX2) (by decide +kernel)) hK hP hD hS hA rfl (fun j hj => by rcases (show j = 0 ∨ j = 1 ∨ j = 2 ∨ j = 3 ∨ j = 4 ∨ j = 5 ∨ j = 6 ∨ j = 7 ∨ j = 8 by omega) with rfl | rfl | rfl | rfl | rfl | rfl | rfl | rfl | rfl <;> rfl) (Nat.le_of_ble_eq_true rfl) (Nat.le_of_ble_eq_true rfl) dX3_init_16 (fun q16 H hP hD hS => ?_)
  have hP : va_P D vwCl ((h0, .inr (3, [.ref q5, .null, .null, .int 0])) :: ((wBB u5 cI z0) ++ ([(q16, .inr (2, [.null, .null, .null, .null, .null, .null, .null, .null, .int 0]))]))) H := hP
  have hD : va_D A ((h0, .inr (3, [.ref q5, .null, .null, .int 0])) :: ((wBB u5 cI z0) ++ ([(q16, .inr (2, [.null, .null, .null, .null, .null, .null, .null, .null, .int 0]))]))) := hD
  refine W.widen (k := 13) (n := 461) (Nat.le_of_ble_eq_true rfl) (Nat.le_of_ble_eq_true rfl) ?_
  refine lv_dup hx hb dX3_init_19 rfl ?_
  have zz : ZW D A s.heap ((h0, .inr (3, [.ref q5, .null, .null, .int 0])) :: ((wBB u5 cI z0) ++ ([(q16, .inr (2, [.null, .null, .null, .null, .null, .null, .null, .null, .int 0]))]))) [(q16, .inr (2, [.null, .null, .null, .null, .null, .null, .null, .null, .int 0]))] ((h0, .inr (3, [.ref q5, .null, .null, .int 0])) :: ((wBB u5 cI z0))) H locs [13] (List.range 13) := ⟨hP, hD, hS, hA, by decide, by decide, by decide, rfl, rfl⟩
  refine zcIN (b := q16) (wf := fun (u : Nat → Nat) => ((h0, .inr (3, [.ref q5, .null, .null, .int 0])) :: ((wBB u5 cI z0) ++ ((wRB u cI cZ z0))))) (List.range 22) ⟨hx, hb, hml, hown, hts⟩ zz hK (c_X2_init l D cI cZ q16 H.size) ⟨va_cnB (host := "CashAllocator") 0 hts ggX3_init_X2_init rfl rfl rfl hn2 (hts (.initialized RX2) (by decide +kernel)) (by decide +kernel) ⟨Nat.le_of_ble_eq_true rfl, Nat.le_of_ble_eq_true rfl⟩, rfl, hts (.instanceMethod yX2_init) (by decide +kernel)⟩ (by decide) (fun _ => rfl) rfl hl.1 rfl (Nat.le_of_ble_eq_true rfl) dX3_init_20 ⟨Nat.le_of_ble_eq_true rfl, Nat.le_of_ble_eq_true rfl⟩ (fun u16 H locs hu16 hP hD hS => ?_)
  have hP : va_P D vwCl ((h0, .inr (3, [.ref q5, .null, .null, .int 0])) :: ((wBB u5 cI z0) ++ ((wRB u16 cI cZ z0)))) H := hP
  have hD : va_D A ((h0, .inr (3, [.ref q5, .null, .null, .int 0])) :: ((wBB u5 cI z0) ++ ((wRB u16 cI cZ z0)))) := hD
  refine W.widen (k := 21) (n := 3041) (Nat.le_of_ble_eq_true rfl) (Nat.le_of_ble_eq_true rfl) ?_
  refine va_putF (D := D) (ci := 3) (v := .ref q16) (ty := .object "CashAllocator$ReceiptBook") (C := RX3) (T := TX3) (N := 4) hx hb hts (fun w h => List.mem_cons_of_mem _ (List.mem_append_left _ (List.mem_append_left _ (List.mem_append_right _ h)))) tyX3 tyX3_ok nmX3 hown hK hP hD hS 0 rfl rfl 1 (by decide) (hts (.fieldLink RX3 19 "CashAllocator" "receiptBook" "LCashAllocator$ReceiptBook;") (by decide +kernel)) (fun _ h9 => h9) rfl hin rfl (by decide +kernel) rfl rfl (Nat.le_of_ble_eq_true rfl) dX3_init_23 (fun H locs hP hD hS => ?_)
  have hP : va_P D vwCl ((h0, .inr (3, [.ref q5, .ref q16, .null, .int 0])) :: ((wBB u5 cI z0) ++ ((wRB u16 cI cZ z0)))) H := hP
  have hD : va_D A ((h0, .inr (3, [.ref q5, .ref q16, .null, .int 0])) :: ((wBB u5 cI z0) ++ ((wRB u16 cI cZ z0)))) := hD
  refine lv_aload_n hx hb dX3_init_26 rfl (lv_at hl 0 rfl) ?_
  refine va_new (ci := 1) (fs := [.null, .null, .null, .int 0]) (C := RX1) (T := TX1) (N := 4) hx hb hts (fun w h => List.mem_cons_of_mem _ (List.mem_append_right _ h)) tyX1 tyX1_ok hown (hts (.classLink RX3 23 RX1) (by decide +kernel)) (hts (.instantiable RX1 4) (by decide +kernel)) (hts (.initialized RX1) (by decide +kernel)) hK hP hD hS hA rfl (fun j hj => by rcases (show j = 0 ∨ j = 1 ∨ j = 2 ∨ j = 3 by omega) with rfl | rfl | rfl | rfl <;> rfl) (Nat.le_of_ble_eq_true rfl) (Nat.le_of_ble_eq_true rfl) dX3_init_27 (fun q27 H hP hD hS => ?_)
  have hP : va_P D vwCl ((h0, .inr (3, [.ref q5, .ref q16, .null, .int 0])) :: ((wBB u5 cI z0) ++ ((wRB u16 cI cZ z0) ++ ([(q27, .inr (1, [.null, .null, .null, .int 0]))])))) H := hP
  have hD : va_D A ((h0, .inr (3, [.ref q5, .ref q16, .null, .int 0])) :: ((wBB u5 cI z0) ++ ((wRB u16 cI cZ z0) ++ ([(q27, .inr (1, [.null, .null, .null, .int 0]))])))) := hD
  refine W.widen (k := 22) (n := 3045) (Nat.le_of_ble_eq_true rfl) (Nat.le_of_ble_eq_true rfl) ?_
  refine lv_dup hx hb dX3_init_30 rfl ?_
  have zz : ZW D A s.heap ((h0, .inr (3, [.ref q5, .ref q16, .null, .int 0])) :: ((wBB u5 cI z0) ++ ((wRB u16 cI cZ z0) ++ ([(q27, .inr (1, [.null, .null, .null, .int 0]))])))) [(q27, .inr (1, [.null, .null, .null, .int 0]))] ((h0, .inr (3, [.ref q5, .ref q16, .null, .int 0])) :: ((wBB u5 cI z0) ++ ((wRB u16 cI cZ z0)))) H locs [22] (List.range 22) := ⟨hP, hD, hS, hA, by decide, by decide, by decide, rfl, rfl⟩
  refine zcIN (b := q27) (wf := fun (u : Nat → Nat) => ((h0, .inr (3, [.ref q5, .ref q16, .null, .int 0])) :: ((wBB u5 cI z0) ++ ((wRB u16 cI cZ z0) ++ ((wES u cI z0)))))) (List.range 26) ⟨hx, hb, hml, hown, hts⟩ zz hK (c_X1_init l D cI cZ q27 H.size) ⟨va_cnB (host := "CashAllocator") 0 hts ggX3_init_X1_init rfl rfl rfl hn1 (hts (.initialized RX1) (by decide +kernel)) (by decide +kernel) ⟨Nat.le_of_ble_eq_true rfl, Nat.le_of_ble_eq_true rfl⟩, rfl, hts (.instanceMethod yX1_init) (by decide +kernel)⟩ (by decide) (fun _ => rfl) rfl hl.1 rfl (Nat.le_of_ble_eq_true rfl) dX3_init_31 ⟨Nat.le_of_ble_eq_true rfl, Nat.le_of_ble_eq_true rfl⟩ (fun u27 H locs hu27 hP hD hS => ?_)
  have hP : va_P D vwCl ((h0, .inr (3, [.ref q5, .ref q16, .null, .int 0])) :: ((wBB u5 cI z0) ++ ((wRB u16 cI cZ z0) ++ ((wES u27 cI z0))))) H := hP
  have hD : va_D A ((h0, .inr (3, [.ref q5, .ref q16, .null, .int 0])) :: ((wBB u5 cI z0) ++ ((wRB u16 cI cZ z0) ++ ((wES u27 cI z0))))) := hD
  refine W.widen (k := 25) (n := 3128) (Nat.le_of_ble_eq_true rfl) (Nat.le_of_ble_eq_true rfl) ?_
  refine va_putF (D := D) (ci := 3) (v := .ref q27) (ty := .object "CashAllocator$ExactSet") (C := RX3) (T := TX3) (N := 4) hx hb hts (fun w h => List.mem_cons_of_mem _ (List.mem_append_left _ (List.mem_append_left _ (List.mem_append_right _ h)))) tyX3 tyX3_ok nmX3 hown hK hP hD hS 0 rfl rfl 2 (by decide) (hts (.fieldLink RX3 26 "CashAllocator" "exactSet" "LCashAllocator$ExactSet;") (by decide +kernel)) (fun _ h9 => h9) rfl hin rfl (by decide +kernel) rfl rfl (Nat.le_of_ble_eq_true rfl) dX3_init_34 (fun H locs hP hD hS => ?_)
  have hP : va_P D vwCl ((h0, .inr (3, [.ref q5, .ref q16, .ref q27, .int 0])) :: ((wBB u5 cI z0) ++ ((wRB u16 cI cZ z0) ++ ((wES u27 cI z0))))) H := hP
  have hD : va_D A ((h0, .inr (3, [.ref q5, .ref q16, .ref q27, .int 0])) :: ((wBB u5 cI z0) ++ ((wRB u16 cI cZ z0) ++ ((wES u27 cI z0))))) := hD
  refine lv_aload_n hx hb dX3_init_37 rfl (lv_at hl 0 rfl) ?_
  refine lv_iconst (v := 0) hx hb dX3_init_38 (by decide) ?_
  refine va_put (D := D) (ci := 3) (v := .int 0) (ty := .int) (C := RX3) (T := TX3) (N := 4) hx hb hts (fun w h => List.mem_cons_of_mem _ (List.mem_append_left _ (List.mem_append_left _ (List.mem_append_right _ h)))) tyX3 tyX3_ok nmX3 hown hK hP hD hS 0 rfl rfl 3 (by decide) (hts (.fieldLink RX3 30 "CashAllocator" "today" "I") (by decide +kernel)) (fun _ h9 => h9) rfl (by decide +kernel) rfl rfl (Nat.le_of_ble_eq_true rfl) dX3_init_39 (fun H locs hP hD hS => ?_)
  subst hu5
  subst hu16
  subst hu27
  have hP : va_P D vwCl (wCA (fun k => if k = 0 then h0 else if k ≤ 12 then u5 k else if k ≤ 21 then u16 k else u27 k) cI cZ z0 z0 z0 0) H := hP
  have hD : va_D A (wCA (fun k => if k = 0 then h0 else if k ≤ 12 then u5 k else if k ≤ 21 then u16 k else u27 k) cI cZ z0 z0 z0 0) := hD
  exact W.vret hx hb hr (fun t ht hW => ⟨⟨(fun k => if k = 0 then h0 else if k ≤ 12 then u5 k else if k ≤ 21 then u16 k else u27 k), rfl, rfl, by rw [ht]; exact hP, va_K.moved hW.alike hK, hD⟩, hS.F ht⟩) hS.2.2 dX3_init_42
