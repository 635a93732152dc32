
theorem namL_n {rc : Nat} {rf cu td : Int32} : ∀ {k i : Nat} {B R : Nat → Nat → Int32}, (namL rc rf cu td k i B R).1 11 0 = B 11 0
  | 0, _, _, _ => rfl
  | k + 1, i, B, R => by
    rw [namL]
    split
    · rfl
    · split
      · split
        · rw [namL_n, payB_n]
        · rw [namL_n, dsp_n, payB_n]
      · rw [namL_n]
theorem namS_n {B R : Nat → Nat → Int32} {rc : Nat} {rf : Int32} {n : Nat} {td : Int32} : (namS B R rc rf n td).1 11 0 = B 11 0 := by
  unfold namS
  split <;> exact namL_n
def rcvS (B R E : Nat → Nat → Int32) (q : Nat) (cu am rf : Int32) (n : Nat) (td : Int32) : (Nat → Nat → Int32) × (Nat → Nat → Int32) × (Nat → Nat → Int32) :=
  if rf = 0 then othS B (addR R q cu am) E q n td else othS (namS B (addR R q cu am) q rf n td).1 (namS B (addR R q cu am) q rf n td).2 E q n td
theorem edD_n {B : Nat → Nat → Int32} {i : Nat} {zz : Int32} : edD B i zz 11 0 = B 11 0 := by
  unfold edD
  split <;> rfl
theorem und1_n {B : Nat → Nat → Int32} {i : Nat} {rc sm : Int32} : und1 B i rc sm 11 0 = B 11 0 := by
  unfold und1
  split <;> rfl
theorem und2_n {B : Nat → Nat → Int32} {i : Nat} {rc : Int32} : und2 B i rc 11 0 = B 11 0 := by
  unfold und2
  split
  · exact edD_n
  · rfl
theorem und_n {B : Nat → Nat → Int32} {i : Nat} {rc sm : Int32} : und B i rc sm 11 0 = B 11 0 := und2_n.trans und1_n
theorem drpP_z {R : Nat → Nat → Int32} {rc b : Nat} (h : ∀ j, R 7 j = 0 ∨ R 7 j = 1) : ∀ j, drpP R rc b 7 j = 0 ∨ drpP R rc b 7 j = 1 := fun j => by
  unfold drpP
  rw [pt_at]
  split
  · exact Or.inl rfl
  · exact h j
def bncL (rc : Nat) : Nat → Nat → Nat → (Nat → Nat → Int32) → (Nat → Nat → Int32) → Nat × (Nat → Nat → Int32) × (Nat → Nat → Int32)
  | 0, _, uu, B, R => (uu, B, R)
  | k + 1, i, uu, B, R => if R 7 (40 * rc + i) = 0 then bncL rc k (i + 1) uu B R else bncL rc k (i + 1) (uu + 1) (und B i (nI rc) (R 6 (40 * rc + i))) (drpP R rc i)
def oof (B : Nat → Nat → Int32) (cu : Int32) : Nat → Int32
  | 0 => 0
  | k + 1 => if B 0 k = cu then oof B cu k + opn B k else oof B cu k
set_option maxHeartbeats 4000000 in
set_option maxRecDepth 100000 in
theorem c_X3_bill (l : Launch) (D : va_G) (cI cZ : ClassId) (a : Nat → Nat) (sz : Nat) (B : Nat → Nat → Int32) (R : Nat → Nat → Int32) (E : Nat → Nat → Int32) (td : Int32) (n : Nat) (cu : Int32) (am : Int32) (rf : Int32) (rt : Int32) (dy : Int32) (hB : B 11 0 = nI n) (hn : n < 40) (h1 : ¬ cu < 0) (h2 : cu < 8) (h3 : ¬ am < 1) (h4 : am ≤ 1000000) (h5 : ¬ rf < 1) (h6 : rf ≤ 9999) (h7 : ¬ rt < 0) (h8 : rt ≤ 10000) (h9 : ¬ dy < 0) (h10 : dy ≤ 90) : Met l yX3_bill wsX3_bill ({ frames := 1, cells := 0, slots := 0, locals := 26 } : Room) (va_Pc [.ref (a 0), .int (cu), .int (am), .int (rf), .int (rt), .int (dy)] (PreW D cI cZ (wCA a cI cZ B R E (td)) sz)) (va_Qi (fun (r : Int32) (u : Nat → Nat → Int32) => r = nI n ∧ u = addB B n cu am rf (dcO am rt) (td + dy)) (fun (u : Nat → Nat → Int32) => PostW D cI cZ (va_A (wCA a cI cZ B R E (td)) sz) (wCA a cI cZ u R E (td))) (va_A (wCA a cI cZ B R E (td)) sz)) 0 0 (va_A (wCA a cI cZ B R E (td)) sz) := by
  refine Met.ofW (cc := cX3_bill) (maxL := 6) (ret := (some .int)) (by decide) rfl ?_
  intro p e s m args below meth c s₁ BB hml hv
  obtain ⟨rfl, hsz, hP, hK, hD0⟩ := hv
  have hx := BB.exec
  have hb := BB.bytes
  have hr := BB.returns
  have hts := atoms_spec (ws := wsX3_bill) BB.pre
  have hown : s.vm.findClass RX3 = some m.cls := findClass_of_methodNamed BB.named
  have hlocks := BB.notSynchronized
  clear BB
  subst hsz
  have hD := hD0.self (sz := s.heap.size)
  clear hD0
  generalize hAe : va_A (wCA a cI cZ B R E (td)) s.heap.size = A at hD ⊢
  have hA : ∀ q : Nat, s.heap.size ≤ q → A q := fun q h => by rw [← hAe]; exact Or.inr h
  clear hAe
  have hS : va_S A s.heap s.heap [] := va_S.rf
  have hl := lv_entry ([.ref (a 0), .int (cu), .int (am), .int (rf), .int (rt), .int (dy)]) (n := 6) (Nat.le_of_ble_eq_true rfl)
  rw [lg_entry_eq]
  generalize (lg_sl ([.ref (a 0), .int (cu), .int (am), .int (rf), .int (rt), .int (dy)]) ++ List.replicate (6 - (lg_sl ([.ref (a 0), .int (cu), .int (am), .int (rf), .int (rt), .int (dy)])).length) Slot.unset).toArray = ls at hl ⊢
  have hl : lv_has ls 6 [(0, .ref (a 0)), (1, .int (cu)), (2, .int (am)), (3, .int (rf)), (4, .int (rt)), (5, .int (dy))] := hl
  generalize hHe : s.heap = H at hP
  have hS : va_S A s.heap H [] := by rw [← hHe]; exact va_S.rf
  clear hHe
  generalize hLe : ([] : List Loc) = locs at hS ⊢
  clear hLe
  refine lv_iload_n hx hb dX3_bill_0 rfl (lv_at hl 1 rfl) ?_
  refine zcSv (wf := (fun (u : Unit) => (wCA a cI cZ B R E (td)))) (List.range 26) ⟨hx, hb, hml, hown, hts⟩ (zwNo 26 (by decide) rfl hP hD hS hA) hK (c_X3_requireCustomer l D cI cZ a H.size (cu) (by first | assumption | omega) (by first | assumption | omega)) (cwS 1 hts gX3_bill_X3_requireCustomer rfl rfl rfl (by decide +kernel) ⟨Nat.le_of_ble_eq_true rfl, Nat.le_of_ble_eq_true rfl⟩) (by decide) (fun _ => rfl) rfl hl.1 rfl (Nat.le_of_ble_eq_true rfl) dX3_bill_1 ⟨Nat.le_of_ble_eq_true rfl, Nat.le_of_ble_eq_true rfl⟩ (fun u H locs hw hP hD hS => ?_)
  refine lv_iload_n hx hb dX3_bill_4 rfl (lv_at hl 2 rfl) ?_
  refine lv_iconst (v := 1) hx hb dX3_bill_5 (by decide) ?_
  refine lv_ldc (v := 1000000) hx hb hown (hts (.constant RX3 38 (1000000)) (by decide +kernel)) dX3_bill_6 ?_
  refine zcSv (wf := (fun (u : Unit) => (wCA a cI cZ B R E (td)))) (List.range 26) ⟨hx, hb, hml, hown, hts⟩ (zwNo 26 (by decide) rfl hP hD hS hA) hK (c_X3_requireWithin l D cI cZ a H.size (am) (1) (1000000) h3 h4) (cwS 3 hts gX3_bill_X3_requireWithin rfl rfl rfl (by decide +kernel) ⟨Nat.le_of_ble_eq_true rfl, Nat.le_of_ble_eq_true rfl⟩) (by decide) (fun _ => rfl) rfl hl.1 rfl (Nat.le_of_ble_eq_true rfl) dX3_bill_8 ⟨Nat.le_of_ble_eq_true rfl, Nat.le_of_ble_eq_true rfl⟩ (fun u H locs hw hP hD hS => ?_)
  refine lv_iload_n hx hb dX3_bill_11 rfl (lv_at hl 3 rfl) ?_
  refine lv_iconst (v := 1) hx hb dX3_bill_12 (by decide) ?_
  refine lv_sipush (v := 9999) hx hb dX3_bill_13 (by decide) ?_
  refine zcSv (wf := (fun (u : Unit) => (wCA a cI cZ B R E (td)))) (List.range 26) ⟨hx, hb, hml, hown, hts⟩ (zwNo 26 (by decide) rfl hP hD hS hA) hK (c_X3_requireWithin l D cI cZ a H.size (rf) (1) (9999) h5 h6) (cwS 3 hts gX3_bill_X3_requireWithin rfl rfl rfl (by decide +kernel) ⟨Nat.le_of_ble_eq_true rfl, Nat.le_of_ble_eq_true rfl⟩) (by decide) (fun _ => rfl) rfl hl.1 rfl (Nat.le_of_ble_eq_true rfl) dX3_bill_16 ⟨Nat.le_of_ble_eq_true rfl, Nat.le_of_ble_eq_true rfl⟩ (fun u H locs hw hP hD hS => ?_)
  refine lv_iload hx hb dX3_bill_19 (lv_at hl 4 rfl) ?_
  refine lv_iconst (v := 0) hx hb dX3_bill_21 (by decide) ?_
  refine lv_sipush (v := 10000) hx hb dX3_bill_22 (by decide) ?_
  refine zcSv (wf := (fun (u : Unit) => (wCA a cI cZ B R E (td)))) (List.range 26) ⟨hx, hb, hml, hown, hts⟩ (zwNo 26 (by decide) rfl hP hD hS hA) hK (c_X3_requireWithin l D cI cZ a H.size (rt) (0) (10000) h7 h8) (cwS 3 hts gX3_bill_X3_requireWithin rfl rfl rfl (by decide +kernel) ⟨Nat.le_of_ble_eq_true rfl, Nat.le_of_ble_eq_true rfl⟩) (by decide) (fun _ => rfl) rfl hl.1 rfl (Nat.le_of_ble_eq_true rfl) dX3_bill_25 ⟨Nat.le_of_ble_eq_true rfl, Nat.le_of_ble_eq_true rfl⟩ (fun u H locs hw hP hD hS => ?_)
  refine lv_iload hx hb dX3_bill_28 (lv_at hl 5 rfl) ?_
  refine lv_iconst (v := 0) hx hb dX3_bill_30 (by decide) ?_
  refine lv_bipush (v := 90) hx hb dX3_bill_31 (by decide) ?_
  refine zcSv (wf := (fun (u : Unit) => (wCA a cI cZ B R E (td)))) (List.range 26) ⟨hx, hb, hml, hown, hts⟩ (zwNo 26 (by decide) rfl hP hD hS hA) hK (c_X3_requireWithin l D cI cZ a H.size (dy) (0) (90) h9 h10) (cwS 3 hts gX3_bill_X3_requireWithin rfl rfl rfl (by decide +kernel) ⟨Nat.le_of_ble_eq_true rfl, Nat.le_of_ble_eq_true rfl⟩) (by decide) (fun _ => rfl) rfl hl.1 rfl (Nat.le_of_ble_eq_true rfl) dX3_bill_33 ⟨Nat.le_of_ble_eq_true rfl, Nat.le_of_ble_eq_true rfl⟩ (fun u H locs hw hP hD hS => ?_)
  refine lv_aload_n hx hb dX3_bill_36 rfl (lv_at hl 0 rfl) ?_
  refine va_get (D := D) (ci := 3) (v := .ref (a 1)) (C := RX3) (T := TX3) (N := 4) hx hb hts (fun w h => List.mem_cons_of_mem _ (List.mem_append_left _ (List.mem_append_left _ (List.mem_append_left _ (List.mem_append_left _ (List.mem_append_right _ h)))))) hown hK hP 0 rfl rfl 0 (by decide) (hts (.fieldLink RX3 10 "CashAllocator" "billBook" "LCashAllocator$BillBook;") (by decide +kernel)) (fun _ h9 => h9) rfl dX3_bill_37 ?_
  refine va_get (D := D) (ci := 0) (v := .int (nI (n))) (C := RX0) (T := TX0) (N := 12) hx hb hts (fun w h => List.mem_cons_of_mem _ (List.mem_append_left _ (List.mem_append_left _ (List.mem_append_left _ (List.mem_append_right _ h))))) hown hK hP 1 rfl rfl 11 (by decide) (hts (.fieldLink RX3 43 "CashAllocator$BillBook" "count" "I") (by decide +kernel)) (fun _ h9 => h9) (congrArg (fun z => some (Value.int z)) hB) dX3_bill_40 ?_
  refine lv_bipush (v := nI (40)) hx hb dX3_bill_43 (by decide) ?_
  refine lv_icmp_lt (tgt := 58) hx hb dX3_bill_45 (by decide) (fun c45 => ?_) (fun c45 => ?_)
  · -- 45 taken
    rw [nI_ltI (by omega) (by omega)] at c45
    refine lv_aload_n hx hb dX3_bill_58 rfl (lv_at hl 0 rfl) ?_
    refine va_get (D := D) (ci := 3) (v := .ref (a 1)) (C := RX3) (T := TX3) (N := 4) hx hb hts (fun w h => List.mem_cons_of_mem _ (List.mem_append_left _ (List.mem_append_left _ (List.mem_append_left _ (List.mem_append_left _ (List.mem_append_right _ h)))))) hown hK hP 0 rfl rfl 0 (by decide) (hts (.fieldLink RX3 10 "CashAllocator" "billBook" "LCashAllocator$BillBook;") (by decide +kernel)) (fun _ h9 => h9) rfl dX3_bill_59 ?_
    refine lv_iload_n hx hb dX3_bill_62 rfl (lv_at hl 1 rfl) ?_
    refine lv_iload_n hx hb dX3_bill_63 rfl (lv_at hl 2 rfl) ?_
    refine lv_iload_n hx hb dX3_bill_64 rfl (lv_at hl 3 rfl) ?_
    refine lv_iload_n hx hb dX3_bill_65 rfl (lv_at hl 2 rfl) ?_
    refine lv_iload hx hb dX3_bill_66 (lv_at hl 4 rfl) ?_
    refine zcSi (wf := (fun (u : Unit) => (wCA a cI cZ B R E (td)))) (List.range 26) ⟨hx, hb, hml, hown, hts⟩ (zwNo 26 (by decide) rfl hP hD hS hA) hK (c_X3_discountOf l D cI cZ a H.size (am) (rt) ) (cwS 2 hts gX3_bill_X3_discountOf rfl rfl rfl (by decide +kernel) ⟨Nat.le_of_ble_eq_true rfl, Nat.le_of_ble_eq_true rfl⟩) (by decide) (fun _ => rfl) rfl hl.1 rfl (Nat.le_of_ble_eq_true rfl) dX3_bill_68 ⟨Nat.le_of_ble_eq_true rfl, Nat.le_of_ble_eq_true rfl⟩ (fun r68 u H locs hw hP hD hS => ?_)
    subst hw
    refine lv_aload_n hx hb dX3_bill_71 rfl (lv_at hl 0 rfl) ?_
    refine va_get (D := D) (ci := 3) (v := .int (td)) (C := RX3) (T := TX3) (N := 4) hx hb hts (fun w h => List.mem_cons_of_mem _ (List.mem_append_left _ (List.mem_append_left _ (List.mem_append_left _ (List.mem_append_left _ (List.mem_append_right _ h)))))) hown hK hP 0 rfl rfl 3 (by decide) (hts (.fieldLink RX3 30 "CashAllocator" "today" "I") (by decide +kernel)) (fun _ h9 => h9) rfl dX3_bill_72 ?_
    refine lv_iload hx hb dX3_bill_75 (lv_at hl 5 rfl) ?_
    refine lv_iadd hx hb dX3_bill_77 ?_
    refine zcVi (ci := 0) (q0 := 0) (wf := (fun (u : Nat → Nat → Int32) => (wCA a cI cZ u R E (td)))) ksBB ⟨hx, hb, hml, hown, hts⟩ (zwBB hP hD hS hA) hK (c_X0_add l D cI cZ a H.size (B) (n) (cu) (am) (rf) (dcO (am) (rt)) ((td) + (dy)) (by first | assumption | omega) (by first | assumption | omega)) (cwV 5 hts gX3_bill_X0_add rfl rfl rfl (by decide +kernel) ⟨Nat.le_of_ble_eq_true rfl, Nat.le_of_ble_eq_true rfl⟩) rfl rfl (by decide) (fun _ => zkBB _) rfl hl.1 rfl (Nat.le_of_ble_eq_true rfl) dX3_bill_78 ⟨Nat.le_of_ble_eq_true rfl, Nat.le_of_ble_eq_true rfl⟩ (fun r78 u H locs hw hP hD hS => ?_)
    obtain ⟨rfl, rfl⟩ := hw
    have hP : va_P D vwCl (wCA a cI cZ (addB (B) n (cu) (am) (rf) (dcO (am) (rt)) ((td) + (dy))) R E (td)) H := hP
    have hD : va_D A (wCA a cI cZ (addB (B) n (cu) (am) (rf) (dcO (am) (rt)) ((td) + (dy))) R E (td)) := hD
    exact W.iret (v := nI n) hx hb hr (fun t ht hW => ⟨⟨nI n, (addB (B) n (cu) (am) (rf) (dcO (am) (rt)) ((td) + (dy))), rfl, ⟨rfl, rfl⟩, by rw [ht]; exact hP, va_K.moved hW.alike hK, hD⟩, hS.F ht⟩) hS.2.2 dX3_bill_81
  · -- 45 on
    rw [nI_ltI (by omega) (by omega)] at c45
    exact absurd hn c45
set_option maxHeartbeats 4000000 in
set_option maxRecDepth 100000 in
theorem c_X3_receive (l : Launch) (D : va_G) (cI cZ : ClassId) (a : Nat → Nat) (sz : Nat) (B : Nat → Nat → Int32) (R : Nat → Nat → Int32) (E : Nat → Nat → Int32) (td : Int32) (n : Nat) (q : Nat) (cu : Int32) (am : Int32) (rf : Int32) (hB : B 11 0 = nI n) (hn : n ≤ 40) (hR : R 8 0 = nI q) (hq : q < 30) (hcu : cu = -1 ∨ (¬ cu < 0 ∧ cu < 8)) (h3 : ¬ am < 1) (h4 : am ≤ 1000000) (h5 : ¬ rf < 0) (h6 : rf ≤ 9999) : Met l yX3_receive wsX3_receive ({ frames := 6, cells := 0, slots := 0, locals := 136 } : Room) (va_Pc [.ref (a 0), .int (cu), .int (am), .int (rf)] (PreW D cI cZ (wCA a cI cZ B R E (td)) sz)) (va_Qi (fun (r : Int32) (u : (Nat → Nat → Int32) × (Nat → Nat → Int32) × (Nat → Nat → Int32)) => r = nI q ∧ u = rcvS B R E q cu am rf n td) (fun (u : (Nat → Nat → Int32) × (Nat → Nat → Int32) × (Nat → Nat → Int32)) => PostW D cI cZ (va_A (wCA a cI cZ B R E (td)) sz) (wCA a cI cZ (u.1) (u.2.1) (u.2.2) (td))) (va_A (wCA a cI cZ B R E (td)) sz)) 0 0 (va_A (wCA a cI cZ B R E (td)) sz) := by
  refine Met.ofW (cc := cX3_receive) (maxL := 5) (ret := (some .int)) (by decide) rfl ?_
  intro p e s m args below meth c s₁ BB hml hv
  obtain ⟨rfl, hsz, hP, hK, hD0⟩ := hv
  have hx := BB.exec
  have hb := BB.bytes
  have hr := BB.returns
  have hts := atoms_spec (ws := wsX3_receive) BB.pre
  have hown : s.vm.findClass RX3 = some m.cls := findClass_of_methodNamed BB.named
  have hlocks := BB.notSynchronized
  clear BB
  subst hsz
  have hD := hD0.self (sz := s.heap.size)
  clear hD0
  generalize hAe : va_A (wCA a cI cZ B R E (td)) s.heap.size = A at hD ⊢
  have hA : ∀ q : Nat, s.heap.size ≤ q → A q := fun q h => by rw [← hAe]; exact Or.inr h
  clear hAe
  have hS : va_S A s.heap s.heap [] := va_S.rf
  have hl := lv_entry ([.ref (a 0), .int (cu), .int (am), .int (rf)]) (n := 5) (Nat.le_of_ble_eq_true rfl)
  rw [lg_entry_eq]
  generalize (lg_sl ([.ref (a 0), .int (cu), .int (am), .int (rf)]) ++ List.replicate (5 - (lg_sl ([.ref (a 0), .int (cu), .int (am), .int (rf)])).length) Slot.unset).toArray = ls at hl ⊢
  have hl : lv_has ls 5 [(0, .ref (a 0)), (1, .int (cu)), (2, .int (am)), (3, .int (rf))] := hl
  generalize hHe : s.heap = H at hP
  have hS : va_S A s.heap H [] := by rw [← hHe]; exact va_S.rf
  clear hHe
  generalize hLe : ([] : List Loc) = locs at hS ⊢
  clear hLe
  refine lv_iload_n hx hb dX3_receive_0 rfl (lv_at hl 1 rfl) ?_
  refine lv_iconst (v := (-1)) hx hb dX3_receive_1 (by decide) ?_
  refine lv_icmp_eq (tgt := 9) hx hb dX3_receive_2 (by decide) (fun c2 => ?_) (fun c2 => ?_)
  · -- 2 taken
    refine lv_iload_n hx hb dX3_receive_9 rfl (lv_at hl 2 rfl) ?_
    refine lv_iconst (v := 1) hx hb dX3_receive_10 (by decide) ?_
    refine lv_ldc (v := 1000000) hx hb hown (hts (.constant RX3 38 (1000000)) (by decide +kernel)) dX3_receive_11 ?_
    refine zcSv (wf := (fun (u : Unit) => (wCA a cI cZ B R E (td)))) (List.range 26) ⟨hx, hb, hml, hown, hts⟩ (zwNo 26 (by decide) rfl hP hD hS hA) hK (c_X3_requireWithin l D cI cZ a H.size (am) (1) (1000000) h3 h4) (cwS 3 hts gX3_receive_X3_requireWithin rfl rfl rfl (by decide +kernel) ⟨Nat.le_of_ble_eq_true rfl, Nat.le_of_ble_eq_true rfl⟩) (by decide) (fun _ => rfl) rfl hl.1 rfl (Nat.le_of_ble_eq_true rfl) dX3_receive_13 ⟨Nat.le_of_ble_eq_true rfl, Nat.le_of_ble_eq_true rfl⟩ (fun u H locs hw hP hD hS => ?_)
    refine lv_iload_n hx hb dX3_receive_16 rfl (lv_at hl 3 rfl) ?_
    refine lv_iconst (v := 0) hx hb dX3_receive_17 (by decide) ?_
    refine lv_sipush (v := 9999) hx hb dX3_receive_18 (by decide) ?_
    refine zcSv (wf := (fun (u : Unit) => (wCA a cI cZ B R E (td)))) (List.range 26) ⟨hx, hb, hml, hown, hts⟩ (zwNo 26 (by decide) rfl hP hD hS hA) hK (c_X3_requireWithin l D cI cZ a H.size (rf) (0) (9999) h5 h6) (cwS 3 hts gX3_receive_X3_requireWithin rfl rfl rfl (by decide +kernel) ⟨Nat.le_of_ble_eq_true rfl, Nat.le_of_ble_eq_true rfl⟩) (by decide) (fun _ => rfl) rfl hl.1 rfl (Nat.le_of_ble_eq_true rfl) dX3_receive_21 ⟨Nat.le_of_ble_eq_true rfl, Nat.le_of_ble_eq_true rfl⟩ (fun u H locs hw hP hD hS => ?_)
    refine lv_aload_n hx hb dX3_receive_24 rfl (lv_at hl 0 rfl) ?_
    refine va_get (D := D) (ci := 3) (v := .ref (a 13)) (C := RX3) (T := TX3) (N := 4) hx hb hts (fun w h => List.mem_cons_of_mem _ (List.mem_append_left _ (List.mem_append_left _ (List.mem_append_left _ (List.mem_append_left _ (List.mem_append_left _ (List.mem_append_left _ (List.mem_append_right _ h)))))))) hown hK hP 0 rfl rfl 1 (by decide) (hts (.fieldLink RX3 19 "CashAllocator" "receiptBook" "LCashAllocator$ReceiptBook;") (by decide +kernel)) (fun _ h9 => h9) rfl dX3_receive_25 ?_
    refine va_get (D := D) (ci := 2) (v := .int (nI (q))) (C := RX2) (T := TX2) (N := 9) hx hb hts (fun w h => List.mem_cons_of_mem _ (List.mem_append_left _ (List.mem_append_left _ (List.mem_append_left _ (List.mem_append_left _ (List.mem_append_left _ (List.mem_append_right _ h))))))) hown hK hP 13 rfl rfl 8 (by decide) (hts (.fieldLink RX3 61 "CashAllocator$ReceiptBook" "count" "I") (by decide +kernel)) (fun _ h9 => h9) (congrArg (fun z => some (Value.int z)) hR) dX3_receive_28 ?_
    refine lv_bipush (v := nI (30)) hx hb dX3_receive_31 (by decide) ?_
    refine lv_icmp_lt (tgt := 46) hx hb dX3_receive_33 (by decide) (fun c33 => ?_) (fun c33 => ?_)
    · -- 33 taken
      rw [nI_ltI (by omega) (by omega)] at c33
      refine lv_aload_n hx hb dX3_receive_46 rfl (lv_at hl 0 rfl) ?_
      refine va_get (D := D) (ci := 3) (v := .ref (a 13)) (C := RX3) (T := TX3) (N := 4) hx hb hts (fun w h => List.mem_cons_of_mem _ (List.mem_append_left _ (List.mem_append_left _ (List.mem_append_left _ (List.mem_append_left _ (List.mem_append_left _ (List.mem_append_left _ (List.mem_append_right _ h)))))))) hown hK hP 0 rfl rfl 1 (by decide) (hts (.fieldLink RX3 19 "CashAllocator" "receiptBook" "LCashAllocator$ReceiptBook;") (by decide +kernel)) (fun _ h9 => h9) rfl dX3_receive_47 ?_
      refine lv_iload_n hx hb dX3_receive_50 rfl (lv_at hl 1 rfl) ?_
      refine lv_iload_n hx hb dX3_receive_51 rfl (lv_at hl 2 rfl) ?_
      refine zcVi (ci := 2) (q0 := 0) (wf := (fun (u : Nat → Nat → Int32) => (wCA a cI cZ B u E (td)))) ksRB ⟨hx, hb, hml, hown, hts⟩ (zwRB hP hD hS hA) hK (c_X2_add l D cI cZ a H.size (R) (q) (cu) (am) (by first | assumption | omega) hq) (cwV 2 hts gX3_receive_X2_add rfl rfl rfl (by decide +kernel) ⟨Nat.le_of_ble_eq_true rfl, Nat.le_of_ble_eq_true rfl⟩) rfl rfl (by decide) (fun _ => zkRB _) rfl hl.1 rfl (Nat.le_of_ble_eq_true rfl) dX3_receive_52 ⟨Nat.le_of_ble_eq_true rfl, Nat.le_of_ble_eq_true rfl⟩ (fun r52 u H locs hw hP hD hS => ?_)
      obtain ⟨rfl, rfl⟩ := hw
      have hP : va_P D vwCl (wCA a cI cZ B (addR (R) (q) (cu) (am)) E (td)) H := hP
      have hD : va_D A (wCA a cI cZ B (addR (R) (q) (cu) (am)) E (td)) := hD
      refine lv_istore (lv' := [(4, .int (nI (q))), (0, .ref (a 0)), (1, .int (cu)), (2, .int (am)), (3, .int (rf))]) hx hb dX3_receive_55 hl (by decide) rfl (fun ls hl => ?_)
      refine lv_iload_n hx hb dX3_receive_57 rfl (lv_at hl 4 rfl) ?_
      refine lv_if_eq (tgt := 68) hx hb dX3_receive_58 (by decide) (fun c58 => ?_) (fun c58 => ?_)
      · -- 58 taken
        refine lv_aload_n hx hb dX3_receive_68 rfl (lv_at hl 1 rfl) ?_
        refine lv_iload hx hb dX3_receive_69 (lv_at hl 0 rfl) ?_
        refine zcVv (ci := 3) (q0 := 0) (wf := (fun (u : (Nat → Nat → Int32) × (Nat → Nat → Int32) × (Nat → Nat → Int32)) => (wCA a cI cZ (u.1) (u.2.1) (u.2.2) (td)))) (List.range 26) ⟨hx, hb, hml, hown, hts⟩ (zwAll 26 (by decide) rfl hP hD hS hA) hK (c_X3_payOtherBills l D cI cZ a H.size (B) ((addR (R) (q) (cu) (am))) (E) (td) (q) (n) (by first | assumption | omega) (by first | exact hB | (rw [namS_n]; exact hB)) (by first | assumption | omega)) (cwV 1 hts gX3_receive_X3_payOtherBills rfl rfl rfl (by decide +kernel) ⟨Nat.le_of_ble_eq_true rfl, Nat.le_of_ble_eq_true rfl⟩) rfl rfl (by decide) (fun _ => rfl) rfl hl.1 rfl (Nat.le_of_ble_eq_true rfl) dX3_receive_71 ⟨Nat.le_of_ble_eq_true rfl, Nat.le_of_ble_eq_true rfl⟩ (fun u H locs hw hP hD hS => ?_)
        subst hw
        have hP : va_P D vwCl (wCA a cI cZ ((othS (B) ((addR (R) (q) (cu) (am))) (E) (q) n (td)).1) ((othS (B) ((addR (R) (q) (cu) (am))) (E) (q) n (td)).2.1) ((othS (B) ((addR (R) (q) (cu) (am))) (E) (q) n (td)).2.2) (td)) H := hP
        have hD : va_D A (wCA a cI cZ ((othS (B) ((addR (R) (q) (cu) (am))) (E) (q) n (td)).1) ((othS (B) ((addR (R) (q) (cu) (am))) (E) (q) n (td)).2.1) ((othS (B) ((addR (R) (q) (cu) (am))) (E) (q) n (td)).2.2) (td)) := hD
        refine lv_iload hx hb dX3_receive_74 (lv_at hl 0 rfl) ?_
        exact W.iret (v := nI (q)) hx hb hr (fun t ht hW => ⟨⟨nI (q), (((othS (B) ((addR (R) (q) (cu) (am))) (E) (q) n (td)).1), ((othS (B) ((addR (R) (q) (cu) (am))) (E) (q) n (td)).2.1), ((othS (B) ((addR (R) (q) (cu) (am))) (E) (q) n (td)).2.2)), rfl, ⟨rfl, by unfold rcvS; first | (rw [if_pos c58]; done) | (rw [if_neg c58]; done)⟩, by rw [ht]; exact hP, va_K.moved hW.alike hK, hD⟩, hS.F ht⟩) hS.2.2 dX3_receive_76
      · -- 58 on
        refine lv_aload_n hx hb dX3_receive_61 rfl (lv_at hl 1 rfl) ?_
        refine lv_iload hx hb dX3_receive_62 (lv_at hl 0 rfl) ?_
        refine lv_iload_n hx hb dX3_receive_64 rfl (lv_at hl 4 rfl) ?_
        refine zcVv (ci := 3) (q0 := 0) (wf := (fun (u : (Nat → Nat → Int32) × (Nat → Nat → Int32)) => (wCA a cI cZ (u.1) (u.2) E (td)))) (List.range 26) ⟨hx, hb, hml, hown, hts⟩ (zwAll 26 (by decide) rfl hP hD hS hA) hK (c_X3_payNamedBills l D cI cZ a H.size (B) ((addR (R) (q) (cu) (am))) (E) (td) (q) (rf) (n) (by first | assumption | omega) (by first | assumption | omega) (by first | assumption | omega)) (cwV 2 hts gX3_receive_X3_payNamedBills rfl rfl rfl (by decide +kernel) ⟨Nat.le_of_ble_eq_true rfl, Nat.le_of_ble_eq_true rfl⟩) rfl rfl (by decide) (fun _ => rfl) rfl hl.1 rfl (Nat.le_of_ble_eq_true rfl) dX3_receive_65 ⟨Nat.le_of_ble_eq_true rfl, Nat.le_of_ble_eq_true rfl⟩ (fun u H locs hw hP hD hS => ?_)
        subst hw
        have hP : va_P D vwCl (wCA a cI cZ ((namS (B) ((addR (R) (q) (cu) (am))) (q) (rf) n (td)).1) ((namS (B) ((addR (R) (q) (cu) (am))) (q) (rf) n (td)).2) E (td)) H := hP
        have hD : va_D A (wCA a cI cZ ((namS (B) ((addR (R) (q) (cu) (am))) (q) (rf) n (td)).1) ((namS (B) ((addR (R) (q) (cu) (am))) (q) (rf) n (td)).2) E (td)) := hD
        refine lv_aload_n hx hb dX3_receive_68 rfl (lv_at hl 1 rfl) ?_
        refine lv_iload hx hb dX3_receive_69 (lv_at hl 0 rfl) ?_
        refine zcVv (ci := 3) (q0 := 0) (wf := (fun (u : (Nat → Nat → Int32) × (Nat → Nat → Int32) × (Nat → Nat → Int32)) => (wCA a cI cZ (u.1) (u.2.1) (u.2.2) (td)))) (List.range 26) ⟨hx, hb, hml, hown, hts⟩ (zwAll 26 (by decide) rfl hP hD hS hA) hK (c_X3_payOtherBills l D cI cZ a H.size (((namS (B) ((addR (R) (q) (cu) (am))) (q) (rf) n (td)).1)) (((namS (B) ((addR (R) (q) (cu) (am))) (q) (rf) n (td)).2)) (E) (td) (q) (n) (by first | assumption | omega) (by first | exact hB | (rw [namS_n]; exact hB)) (by first | assumption | omega)) (cwV 1 hts gX3_receive_X3_payOtherBills rfl rfl rfl (by decide +kernel) ⟨Nat.le_of_ble_eq_true rfl, Nat.le_of_ble_eq_true rfl⟩) rfl rfl (by decide) (fun _ => rfl) rfl hl.1 rfl (Nat.le_of_ble_eq_true rfl) dX3_receive_71 ⟨Nat.le_of_ble_eq_true rfl, Nat.le_of_ble_eq_true rfl⟩ (fun u H locs hw hP hD hS => ?_)
        subst hw
        have hP : va_P D vwCl (wCA a cI cZ ((othS (((namS (B) ((addR (R) (q) (cu) (am))) (q) (rf) n (td)).1)) (((namS (B) ((addR (R) (q) (cu) (am))) (q) (rf) n (td)).2)) (E) (q) n (td)).1) ((othS (((namS (B) ((addR (R) (q) (cu) (am))) (q) (rf) n (td)).1)) (((namS (B) ((addR (R) (q) (cu) (am))) (q) (rf) n (td)).2)) (E) (q) n (td)).2.1) ((othS (((namS (B) ((addR (R) (q) (cu) (am))) (q) (rf) n (td)).1)) (((namS (B) ((addR (R) (q) (cu) (am))) (q) (rf) n (td)).2)) (E) (q) n (td)).2.2) (td)) H := hP
        have hD : va_D A (wCA a cI cZ ((othS (((namS (B) ((addR (R) (q) (cu) (am))) (q) (rf) n (td)).1)) (((namS (B) ((addR (R) (q) (cu) (am))) (q) (rf) n (td)).2)) (E) (q) n (td)).1) ((othS (((namS (B) ((addR (R) (q) (cu) (am))) (q) (rf) n (td)).1)) (((namS (B) ((addR (R) (q) (cu) (am))) (q) (rf) n (td)).2)) (E) (q) n (td)).2.1) ((othS (((namS (B) ((addR (R) (q) (cu) (am))) (q) (rf) n (td)).1)) (((namS (B) ((addR (R) (q) (cu) (am))) (q) (rf) n (td)).2)) (E) (q) n (td)).2.2) (td)) := hD
        refine lv_iload hx hb dX3_receive_74 (lv_at hl 0 rfl) ?_
        exact W.iret (v := nI (q)) hx hb hr (fun t ht hW => ⟨⟨nI (q), (((othS (((namS (B) ((addR (R) (q) (cu) (am))) (q) (rf) n (td)).1)) (((namS (B) ((addR (R) (q) (cu) (am))) (q) (rf) n (td)).2)) (E) (q) n (td)).1), ((othS (((namS (B) ((addR (R) (q) (cu) (am))) (q) (rf) n (td)).1)) (((namS (B) ((addR (R) (q) (cu) (am))) (q) (rf) n (td)).2)) (E) (q) n (td)).2.1), ((othS (((namS (B) ((addR (R) (q) (cu) (am))) (q) (rf) n (td)).1)) (((namS (B) ((addR (R) (q) (cu) (am))) (q) (rf) n (td)).2)) (E) (q) n (td)).2.2)), rfl, ⟨rfl, by unfold rcvS; first | (rw [if_pos c58]; done) | (rw [if_neg c58]; done)⟩, by rw [ht]; exact hP, va_K.moved hW.alike hK, hD⟩, hS.F ht⟩) hS.2.2 dX3_receive_76
    · -- 33 on
      rw [nI_ltI (by omega) (by omega)] at c33
      exact absurd hq c33
  · -- 2 on
    refine lv_iload_n hx hb dX3_receive_5 rfl (lv_at hl 1 rfl) ?_
    refine zcSv (wf := (fun (u : Unit) => (wCA a cI cZ B R E (td)))) (List.range 26) ⟨hx, hb, hml, hown, hts⟩ (zwNo 26 (by decide) rfl hP hD hS hA) hK (c_X3_requireCustomer l D cI cZ a H.size (cu) (hcu.resolve_left c2).1 (hcu.resolve_left c2).2) (cwS 1 hts gX3_receive_X3_requireCustomer rfl rfl rfl (by decide +kernel) ⟨Nat.le_of_ble_eq_true rfl, Nat.le_of_ble_eq_true rfl⟩) (by decide) (fun _ => rfl) rfl hl.1 rfl (Nat.le_of_ble_eq_true rfl) dX3_receive_6 ⟨Nat.le_of_ble_eq_true rfl, Nat.le_of_ble_eq_true rfl⟩ (fun u H locs hw hP hD hS => ?_)
    refine lv_iload_n hx hb dX3_receive_9 rfl (lv_at hl 2 rfl) ?_
    refine lv_iconst (v := 1) hx hb dX3_receive_10 (by decide) ?_
    refine lv_ldc (v := 1000000) hx hb hown (hts (.constant RX3 38 (1000000)) (by decide +kernel)) dX3_receive_11 ?_
    refine zcSv (wf := (fun (u : Unit) => (wCA a cI cZ B R E (td)))) (List.range 26) ⟨hx, hb, hml, hown, hts⟩ (zwNo 26 (by decide) rfl hP hD hS hA) hK (c_X3_requireWithin l D cI cZ a H.size (am) (1) (1000000) h3 h4) (cwS 3 hts gX3_receive_X3_requireWithin rfl rfl rfl (by decide +kernel) ⟨Nat.le_of_ble_eq_true rfl, Nat.le_of_ble_eq_true rfl⟩) (by decide) (fun _ => rfl) rfl hl.1 rfl (Nat.le_of_ble_eq_true rfl) dX3_receive_13 ⟨Nat.le_of_ble_eq_true rfl, Nat.le_of_ble_eq_true rfl⟩ (fun u H locs hw hP hD hS => ?_)
    refine lv_iload_n hx hb dX3_receive_16 rfl (lv_at hl 3 rfl) ?_
    refine lv_iconst (v := 0) hx hb dX3_receive_17 (by decide) ?_
    refine lv_sipush (v := 9999) hx hb dX3_receive_18 (by decide) ?_
    refine zcSv (wf := (fun (u : Unit) => (wCA a cI cZ B R E (td)))) (List.range 26) ⟨hx, hb, hml, hown, hts⟩ (zwNo 26 (by decide) rfl hP hD hS hA) hK (c_X3_requireWithin l D cI cZ a H.size (rf) (0) (9999) h5 h6) (cwS 3 hts gX3_receive_X3_requireWithin rfl rfl rfl (by decide +kernel) ⟨Nat.le_of_ble_eq_true rfl, Nat.le_of_ble_eq_true rfl⟩) (by decide) (fun _ => rfl) rfl hl.1 rfl (Nat.le_of_ble_eq_true rfl) dX3_receive_21 ⟨Nat.le_of_ble_eq_true rfl, Nat.le_of_ble_eq_true rfl⟩ (fun u H locs hw hP hD hS => ?_)
    refine lv_aload_n hx hb dX3_receive_24 rfl (lv_at hl 0 rfl) ?_
    refine va_get (D := D) (ci := 3) (v := .ref (a 13)) (C := RX3) (T := TX3) (N := 4) hx hb hts (fun w h => List.mem_cons_of_mem _ (List.mem_append_left _ (List.mem_append_left _ (List.mem_append_left _ (List.mem_append_left _ (List.mem_append_left _ (List.mem_append_left _ (List.mem_append_right _ h)))))))) hown hK hP 0 rfl rfl 1 (by decide) (hts (.fieldLink RX3 19 "CashAllocator" "receiptBook" "LCashAllocator$ReceiptBook;") (by decide +kernel)) (fun _ h9 => h9) rfl dX3_receive_25 ?_
    refine va_get (D := D) (ci := 2) (v := .int (nI (q))) (C := RX2) (T := TX2) (N := 9) hx hb hts (fun w h => List.mem_cons_of_mem _ (List.mem_append_left _ (List.mem_append_left _ (List.mem_append_left _ (List.mem_append_left _ (List.mem_append_left _ (List.mem_append_right _ h))))))) hown hK hP 13 rfl rfl 8 (by decide) (hts (.fieldLink RX3 61 "CashAllocator$ReceiptBook" "count" "I") (by decide +kernel)) (fun _ h9 => h9) (congrArg (fun z => some (Value.int z)) hR) dX3_receive_28 ?_
    refine lv_bipush (v := nI (30)) hx hb dX3_receive_31 (by decide) ?_
    refine lv_icmp_lt (tgt := 46) hx hb dX3_receive_33 (by decide) (fun c33 => ?_) (fun c33 => ?_)
    · -- 33 taken
      rw [nI_ltI (by omega) (by omega)] at c33
      refine lv_aload_n hx hb dX3_receive_46 rfl (lv_at hl 0 rfl) ?_
      refine va_get (D := D) (ci := 3) (v := .ref (a 13)) (C := RX3) (T := TX3) (N := 4) hx hb hts (fun w h => List.mem_cons_of_mem _ (List.mem_append_left _ (List.mem_append_left _ (List.mem_append_left _ (List.mem_append_left _ (List.mem_append_left _ (List.mem_append_left _ (List.mem_append_right _ h)))))))) hown hK hP 0 rfl rfl 1 (by decide) (hts (.fieldLink RX3 19 "CashAllocator" "receiptBook" "LCashAllocator$ReceiptBook;") (by decide +kernel)) (fun _ h9 => h9) rfl dX3_receive_47 ?_
      refine lv_iload_n hx hb dX3_receive_50 rfl (lv_at hl 1 rfl) ?_
      refine lv_iload_n hx hb dX3_receive_51 rfl (lv_at hl 2 rfl) ?_
      refine zcVi (ci := 2) (q0 := 0) (wf := (fun (u : Nat → Nat → Int32) => (wCA a cI cZ B u E (td)))) ksRB ⟨hx, hb, hml, hown, hts⟩ (zwRB hP hD hS hA) hK (c_X2_add l D cI cZ a H.size (R) (q) (cu) (am) (by first | assumption | omega) hq) (cwV 2 hts gX3_receive_X2_add rfl rfl rfl (by decide +kernel) ⟨Nat.le_of_ble_eq_true rfl, Nat.le_of_ble_eq_true rfl⟩) rfl rfl (by decide) (fun _ => zkRB _) rfl hl.1 rfl (Nat.le_of_ble_eq_true rfl) dX3_receive_52 ⟨Nat.le_of_ble_eq_true rfl, Nat.le_of_ble_eq_true rfl⟩ (fun r52 u H locs hw hP hD hS => ?_)
      obtain ⟨rfl, rfl⟩ := hw
      have hP : va_P D vwCl (wCA a cI cZ B (addR (R) (q) (cu) (am)) E (td)) H := hP
      have hD : va_D A (wCA a cI cZ B (addR (R) (q) (cu) (am)) E (td)) := hD
      refine lv_istore (lv' := [(4, .int (nI (q))), (0, .ref (a 0)), (1, .int (cu)), (2, .int (am)), (3, .int (rf))]) hx hb dX3_receive_55 hl (by decide) rfl (fun ls hl => ?_)
      refine lv_iload_n hx hb dX3_receive_57 rfl (lv_at hl 4 rfl) ?_
      refine lv_if_eq (tgt := 68) hx hb dX3_receive_58 (by decide) (fun c58 => ?_) (fun c58 => ?_)
      · -- 58 taken
        refine lv_aload_n hx hb dX3_receive_68 rfl (lv_at hl 1 rfl) ?_
        refine lv_iload hx hb dX3_receive_69 (lv_at hl 0 rfl) ?_
        refine zcVv (ci := 3) (q0 := 0) (wf := (fun (u : (Nat → Nat → Int32) × (Nat → Nat → Int32) × (Nat → Nat → Int32)) => (wCA a cI cZ (u.1) (u.2.1) (u.2.2) (td)))) (List.range 26) ⟨hx, hb, hml, hown, hts⟩ (zwAll 26 (by decide) rfl hP hD hS hA) hK (c_X3_payOtherBills l D cI cZ a H.size (B) ((addR (R) (q) (cu) (am))) (E) (td) (q) (n) (by first | assumption | omega) (by first | exact hB | (rw [namS_n]; exact hB)) (by first | assumption | omega)) (cwV 1 hts gX3_receive_X3_payOtherBills rfl rfl rfl (by decide +kernel) ⟨Nat.le_of_ble_eq_true rfl, Nat.le_of_ble_eq_true rfl⟩) rfl rfl (by decide) (fun _ => rfl) rfl hl.1 rfl (Nat.le_of_ble_eq_true rfl) dX3_receive_71 ⟨Nat.le_of_ble_eq_true rfl, Nat.le_of_ble_eq_true rfl⟩ (fun u H locs hw hP hD hS => ?_)
        subst hw
        have hP : va_P D vwCl (wCA a cI cZ ((othS (B) ((addR (R) (q) (cu) (am))) (E) (q) n (td)).1) ((othS (B) ((addR (R) (q) (cu) (am))) (E) (q) n (td)).2.1) ((othS (B) ((addR (R) (q) (cu) (am))) (E) (q) n (td)).2.2) (td)) H := hP
        have hD : va_D A (wCA a cI cZ ((othS (B) ((addR (R) (q) (cu) (am))) (E) (q) n (td)).1) ((othS (B) ((addR (R) (q) (cu) (am))) (E) (q) n (td)).2.1) ((othS (B) ((addR (R) (q) (cu) (am))) (E) (q) n (td)).2.2) (td)) := hD
        refine lv_iload hx hb dX3_receive_74 (lv_at hl 0 rfl) ?_
        exact W.iret (v := nI (q)) hx hb hr (fun t ht hW => ⟨⟨nI (q), (((othS (B) ((addR (R) (q) (cu) (am))) (E) (q) n (td)).1), ((othS (B) ((addR (R) (q) (cu) (am))) (E) (q) n (td)).2.1), ((othS (B) ((addR (R) (q) (cu) (am))) (E) (q) n (td)).2.2)), rfl, ⟨rfl, by unfold rcvS; first | (rw [if_pos c58]; done) | (rw [if_neg c58]; done)⟩, by rw [ht]; exact hP, va_K.moved hW.alike hK, hD⟩, hS.F ht⟩) hS.2.2 dX3_receive_76
      · -- 58 on
        refine lv_aload_n hx hb dX3_receive_61 rfl (lv_at hl 1 rfl) ?_
        refine lv_iload hx hb dX3_receive_62 (lv_at hl 0 rfl) ?_
        refine lv_iload_n hx hb dX3_receive_64 rfl (lv_at hl 4 rfl) ?_
        refine zcVv (ci := 3) (q0 := 0) (wf := (fun (u : (Nat → Nat → Int32) × (Nat → Nat → Int32)) => (wCA a cI cZ (u.1) (u.2) E (td)))) (List.range 26) ⟨hx, hb, hml, hown, hts⟩ (zwAll 26 (by decide) rfl hP hD hS hA) hK (c_X3_payNamedBills l D cI cZ a H.size (B) ((addR (R) (q) (cu) (am))) (E) (td) (q) (rf) (n) (by first | assumption | omega) (by first | assumption | omega) (by first | assumption | omega)) (cwV 2 hts gX3_receive_X3_payNamedBills rfl rfl rfl (by decide +kernel) ⟨Nat.le_of_ble_eq_true rfl, Nat.le_of_ble_eq_true rfl⟩) rfl rfl (by decide) (fun _ => rfl) rfl hl.1 rfl (Nat.le_of_ble_eq_true rfl) dX3_receive_65 ⟨Nat.le_of_ble_eq_true rfl, Nat.le_of_ble_eq_true rfl⟩ (fun u H locs hw hP hD hS => ?_)
        subst hw
        have hP : va_P D vwCl (wCA a cI cZ ((namS (B) ((addR (R) (q) (cu) (am))) (q) (rf) n (td)).1) ((namS (B) ((addR (R) (q) (cu) (am))) (q) (rf) n (td)).2) E (td)) H := hP
        have hD : va_D A (wCA a cI cZ ((namS (B) ((addR (R) (q) (cu) (am))) (q) (rf) n (td)).1) ((namS (B) ((addR (R) (q) (cu) (am))) (q) (rf) n (td)).2) E (td)) := hD
        refine lv_aload_n hx hb dX3_receive_68 rfl (lv_at hl 1 rfl) ?_
        refine lv_iload hx hb dX3_receive_69 (lv_at hl 0 rfl) ?_
        refine zcVv (ci := 3) (q0 := 0) (wf := (fun (u : (Nat → Nat → Int32) × (Nat → Nat → Int32) × (Nat → Nat → Int32)) => (wCA a cI cZ (u.1) (u.2.1) (u.2.2) (td)))) (List.range 26) ⟨hx, hb, hml, hown, hts⟩ (zwAll 26 (by decide) rfl hP hD hS hA) hK (c_X3_payOtherBills l D cI cZ a H.size (((namS (B) ((addR (R) (q) (cu) (am))) (q) (rf) n (td)).1)) (((namS (B) ((addR (R) (q) (cu) (am))) (q) (rf) n (td)).2)) (E) (td) (q) (n) (by first | assumption | omega) (by first | exact hB | (rw [namS_n]; exact hB)) (by first | assumption | omega)) (cwV 1 hts gX3_receive_X3_payOtherBills rfl rfl rfl (by decide +kernel) ⟨Nat.le_of_ble_eq_true rfl, Nat.le_of_ble_eq_true rfl⟩) rfl rfl (by decide) (fun _ => rfl) rfl hl.1 rfl (Nat.le_of_ble_eq_true rfl) dX3_receive_71 ⟨Nat.le_of_ble_eq_true rfl, Nat.le_of_ble_eq_true rfl⟩ (fun u H locs hw hP hD hS => ?_)
        subst hw
        have hP : va_P D vwCl (wCA a cI cZ ((othS (((namS (B) ((addR (R) (q) (cu) (am))) (q) (rf) n (td)).1)) (((namS (B) ((addR (R) (q) (cu) (am))) (q) (rf) n (td)).2)) (E) (q) n (td)).1) ((othS (((namS (B) ((addR (R) (q) (cu) (am))) (q) (rf) n (td)).1)) (((namS (B) ((addR (R) (q) (cu) (am))) (q) (rf) n (td)).2)) (E) (q) n (td)).2.1) ((othS (((namS (B) ((addR (R) (q) (cu) (am))) (q) (rf) n (td)).1)) (((namS (B) ((addR (R) (q) (cu) (am))) (q) (rf) n (td)).2)) (E) (q) n (td)).2.2) (td)) H := hP
        have hD : va_D A (wCA a cI cZ ((othS (((namS (B) ((addR (R) (q) (cu) (am))) (q) (rf) n (td)).1)) (((namS (B) ((addR (R) (q) (cu) (am))) (q) (rf) n (td)).2)) (E) (q) n (td)).1) ((othS (((namS (B) ((addR (R) (q) (cu) (am))) (q) (rf) n (td)).1)) (((namS (B) ((addR (R) (q) (cu) (am))) (q) (rf) n (td)).2)) (E) (q) n (td)).2.1) ((othS (((namS (B) ((addR (R) (q) (cu) (am))) (q) (rf) n (td)).1)) (((namS (B) ((addR (R) (q) (cu) (am))) (q) (rf) n (td)).2)) (E) (q) n (td)).2.2) (td)) := hD
        refine lv_iload hx hb dX3_receive_74 (lv_at hl 0 rfl) ?_
        exact W.iret (v := nI (q)) hx hb hr (fun t ht hW => ⟨⟨nI (q), (((othS (((namS (B) ((addR (R) (q) (cu) (am))) (q) (rf) n (td)).1)) (((namS (B) ((addR (R) (q) (cu) (am))) (q) (rf) n (td)).2)) (E) (q) n (td)).1), ((othS (((namS (B) ((addR (R) (q) (cu) (am))) (q) (rf) n (td)).1)) (((namS (B) ((addR (R) (q) (cu) (am))) (q) (rf) n (td)).2)) (E) (q) n (td)).2.1), ((othS (((namS (B) ((addR (R) (q) (cu) (am))) (q) (rf) n (td)).1)) (((namS (B) ((addR (R) (q) (cu) (am))) (q) (rf) n (td)).2)) (E) (q) n (td)).2.2)), rfl, ⟨rfl, by unfold rcvS; first | (rw [if_pos c58]; done) | (rw [if_neg c58]; done)⟩, by rw [ht]; exact hP, va_K.moved hW.alike hK, hD⟩, hS.F ht⟩) hS.2.2 dX3_receive_76
    · -- 33 on
      rw [nI_ltI (by omega) (by omega)] at c33
      exact absurd hq c33
set_option maxHeartbeats 4000000 in
set_option maxRecDepth 100000 in
theorem c_X3_assign (l : Launch) (D : va_G) (cI cZ : ClassId) (a : Nat → Nat) (sz : Nat) (B : Nat → Nat → Int32) (R : Nat → Nat → Int32) (E : Nat → Nat → Int32) (td : Int32) (n : Nat) (q : Nat) (rc : Nat) (cu : Int32) (hB : B 11 0 = nI n) (hn : n ≤ 40) (hR : R 8 0 = nI q) (hq : q ≤ 30) (hrq : rc < q) (h1 : ¬ cu < 0) (h2 : cu < 8) (h5 : R 5 rc = 0) (h0 : R 0 rc = -1) : Met l yX3_assign wsX3_assign ({ frames := 6, cells := 0, slots := 0, locals := 136 } : Room) (va_Pc [.ref (a 0), .int (nI (rc)), .int (cu)] (PreW D cI cZ (wCA a cI cZ B R E (td)) sz)) (va_Qi (fun (r : Int32) (u : (Nat → Nat → Int32) × (Nat → Nat → Int32) × (Nat → Nat → Int32)) => r = (othS B (pt R 0 rc cu) E rc n td).2.1 3 rc ∧ u = othS B (pt R 0 rc cu) E rc n td) (fun (u : (Nat → Nat → Int32) × (Nat → Nat → Int32) × (Nat → Nat → Int32)) => PostW D cI cZ (va_A (wCA a cI cZ B R E (td)) sz) (wCA a cI cZ (u.1) (u.2.1) (u.2.2) (td))) (va_A (wCA a cI cZ B R E (td)) sz)) 0 0 (va_A (wCA a cI cZ B R E (td)) sz) := by
  refine Met.ofW (cc := cX3_assign) (maxL := 3) (ret := (some .int)) (by decide) rfl ?_
  intro p e s m args below meth c s₁ BB hml hv
  obtain ⟨rfl, hsz, hP, hK, hD0⟩ := hv
  have hx := BB.exec
  have hb := BB.bytes
  have hr := BB.returns
  have hts := atoms_spec (ws := wsX3_assign) BB.pre
  have hown : s.vm.findClass RX3 = some m.cls := findClass_of_methodNamed BB.named
  have hlocks := BB.notSynchronized
  clear BB
  subst hsz
  have hD := hD0.self (sz := s.heap.size)
  clear hD0
  generalize hAe : va_A (wCA a cI cZ B R E (td)) s.heap.size = A at hD ⊢
  have hA : ∀ q : Nat, s.heap.size ≤ q → A q := fun q h => by rw [← hAe]; exact Or.inr h
  clear hAe
  have hS : va_S A s.heap s.heap [] := va_S.rf
  have hl := lv_entry ([.ref (a 0), .int (nI (rc)), .int (cu)]) (n := 3) (Nat.le_of_ble_eq_true rfl)
  rw [lg_entry_eq]
  generalize (lg_sl ([.ref (a 0), .int (nI (rc)), .int (cu)]) ++ List.replicate (3 - (lg_sl ([.ref (a 0), .int (nI (rc)), .int (cu)])).length) Slot.unset).toArray = ls at hl ⊢
  have hl : lv_has ls 3 [(0, .ref (a 0)), (1, .int (nI (rc))), (2, .int (cu))] := hl
  generalize hHe : s.heap = H at hP
  have hS : va_S A s.heap H [] := by rw [← hHe]; exact va_S.rf
  clear hHe
  generalize hLe : ([] : List Loc) = locs at hS ⊢
  clear hLe
  refine lv_aload_n hx hb dX3_assign_0 rfl (lv_at hl 0 rfl) ?_
  refine lv_iload_n hx hb dX3_assign_1 rfl (lv_at hl 1 rfl) ?_
  refine zcVv (ci := 3) (q0 := 0) (wf := (fun (u : Unit) => (wCA a cI cZ B R E (td)))) (List.range 26) ⟨hx, hb, hml, hown, hts⟩ (zwAll 26 (by decide) rfl hP hD hS hA) hK (c_X3_requireReceipt l D cI cZ a H.size (B) (R) (E) (td) (nI (rc)) (nI_pos (by omega)) (by rw [hR]; exact (nI_ltI (by omega) (by omega)).mpr hrq)) (cwV 1 hts gX3_assign_X3_requireReceipt rfl rfl rfl (by decide +kernel) ⟨Nat.le_of_ble_eq_true rfl, Nat.le_of_ble_eq_true rfl⟩) rfl rfl (by decide) (fun _ => rfl) rfl hl.1 rfl (Nat.le_of_ble_eq_true rfl) dX3_assign_2 ⟨Nat.le_of_ble_eq_true rfl, Nat.le_of_ble_eq_true rfl⟩ (fun u H locs hw hP hD hS => ?_)
  refine lv_iload_n hx hb dX3_assign_5 rfl (lv_at hl 2 rfl) ?_
  refine zcSv (wf := (fun (u : Unit) => (wCA a cI cZ B R E (td)))) (List.range 26) ⟨hx, hb, hml, hown, hts⟩ (zwNo 26 (by decide) rfl hP hD hS hA) hK (c_X3_requireCustomer l D cI cZ a H.size (cu) (by first | assumption | omega) (by first | assumption | omega)) (cwS 1 hts gX3_assign_X3_requireCustomer rfl rfl rfl (by decide +kernel) ⟨Nat.le_of_ble_eq_true rfl, Nat.le_of_ble_eq_true rfl⟩) (by decide) (fun _ => rfl) rfl hl.1 rfl (Nat.le_of_ble_eq_true rfl) dX3_assign_6 ⟨Nat.le_of_ble_eq_true rfl, Nat.le_of_ble_eq_true rfl⟩ (fun u H locs hw hP hD hS => ?_)
  refine lv_aload_n hx hb dX3_assign_9 rfl (lv_at hl 0 rfl) ?_
  refine lv_iload_n hx hb dX3_assign_10 rfl (lv_at hl 1 rfl) ?_
  refine zcVv (ci := 3) (q0 := 0) (wf := (fun (u : Unit) => (wCA a cI cZ B R E (td)))) (List.range 26) ⟨hx, hb, hml, hown, hts⟩ (zwAll 26 (by decide) rfl hP hD hS hA) hK (c_X3_requireNotBounced l D cI cZ a H.size (B) (R) (E) (td) (rc) (by first | assumption | omega) h5) (cwV 1 hts gX3_assign_X3_requireNotBounced rfl rfl rfl (by decide +kernel) ⟨Nat.le_of_ble_eq_true rfl, Nat.le_of_ble_eq_true rfl⟩) rfl rfl (by decide) (fun _ => rfl) rfl hl.1 rfl (Nat.le_of_ble_eq_true rfl) dX3_assign_11 ⟨Nat.le_of_ble_eq_true rfl, Nat.le_of_ble_eq_true rfl⟩ (fun u H locs hw hP hD hS => ?_)
  refine lv_aload_n hx hb dX3_assign_14 rfl (lv_at hl 0 rfl) ?_
  refine va_get (D := D) (ci := 3) (v := .ref (a 13)) (C := RX3) (T := TX3) (N := 4) hx hb hts (fun w h => List.mem_cons_of_mem _ (List.mem_append_left _ (List.mem_append_left _ (List.mem_append_left _ (List.mem_append_left _ (List.mem_append_left _ (List.mem_append_right _ h))))))) hown hK hP 0 rfl rfl 1 (by decide) (hts (.fieldLink RX3 19 "CashAllocator" "receiptBook" "LCashAllocator$ReceiptBook;") (by decide +kernel)) (fun _ h9 => h9) rfl dX3_assign_15 ?_
  refine va_get (D := D) (ci := 2) (v := .ref (a 14)) (C := RX2) (T := TX2) (N := 9) hx hb hts (fun w h => List.mem_cons_of_mem _ (List.mem_append_left _ (List.mem_append_left _ (List.mem_append_left _ (List.mem_append_left _ (List.mem_append_right _ h)))))) hown hK hP 13 rfl rfl 0 (by decide) (hts (.fieldLink RX3 79 "CashAllocator$ReceiptBook" "customer" "[I") (by decide +kernel)) (fun _ h9 => h9) rfl dX3_assign_18 ?_
  refine lv_iload_n hx hb dX3_assign_21 rfl (lv_at hl 1 rfl) ?_
  refine zald hx hb hK hP 14 (n := 30) (f := (R 0)) rfl (rc) rfl (by omega) (by decide) dX3_assign_22 ?_
  refine lv_iconst (v := (-1)) hx hb dX3_assign_23 (by decide) ?_
  refine lv_icmp_eq (tgt := 37) hx hb dX3_assign_24 (by decide) (fun c24 => ?_) (fun c24 => ?_)
  · -- 24 taken
    refine lv_aload_n hx hb dX3_assign_37 rfl (lv_at hl 0 rfl) ?_
    refine va_get (D := D) (ci := 3) (v := .ref (a 13)) (C := RX3) (T := TX3) (N := 4) hx hb hts (fun w h => List.mem_cons_of_mem _ (List.mem_append_left _ (List.mem_append_left _ (List.mem_append_left _ (List.mem_append_left _ (List.mem_append_left _ (List.mem_append_right _ h))))))) hown hK hP 0 rfl rfl 1 (by decide) (hts (.fieldLink RX3 19 "CashAllocator" "receiptBook" "LCashAllocator$ReceiptBook;") (by decide +kernel)) (fun _ h9 => h9) rfl dX3_assign_38 ?_
    refine va_get (D := D) (ci := 2) (v := .ref (a 14)) (C := RX2) (T := TX2) (N := 9) hx hb hts (fun w h => List.mem_cons_of_mem _ (List.mem_append_left _ (List.mem_append_left _ (List.mem_append_left _ (List.mem_append_left _ (List.mem_append_right _ h)))))) hown hK hP 13 rfl rfl 0 (by decide) (hts (.fieldLink RX3 79 "CashAllocator$ReceiptBook" "customer" "[I") (by decide +kernel)) (fun _ h9 => h9) rfl dX3_assign_41 ?_
    refine lv_iload_n hx hb dX3_assign_44 rfl (lv_at hl 1 rfl) ?_
    refine lv_iload_n hx hb dX3_assign_45 rfl (lv_at hl 2 rfl) ?_
    refine zast hx hb hK hP hD hS 14 (n := 30) (f := (R 0)) rfl (rc) rfl (by omega) (by decide) (wCA a cI cZ B (pt R 0 (rc) (cu)) E (td)) rfl dX3_assign_46 (fun H locs hP hD hS => ?_)
    refine lv_aload_n hx hb dX3_assign_47 rfl (lv_at hl 0 rfl) ?_
    refine lv_iload_n hx hb dX3_assign_48 rfl (lv_at hl 1 rfl) ?_
    refine zcVv (ci := 3) (q0 := 0) (wf := (fun (u : (Nat → Nat → Int32) × (Nat → Nat → Int32) × (Nat → Nat → Int32)) => (wCA a cI cZ (u.1) (u.2.1) (u.2.2) (td)))) (List.range 26) ⟨hx, hb, hml, hown, hts⟩ (zwAll 26 (by decide) rfl hP hD hS hA) hK (c_X3_payOtherBills l D cI cZ a H.size (B) ((pt R 0 (rc) (cu))) (E) (td) (rc) (n) (by first | assumption | omega) (by first | assumption | omega) (by first | assumption | omega)) (cwV 1 hts gX3_assign_X3_payOtherBills rfl rfl rfl (by decide +kernel) ⟨Nat.le_of_ble_eq_true rfl, Nat.le_of_ble_eq_true rfl⟩) rfl rfl (by decide) (fun _ => rfl) rfl hl.1 rfl (Nat.le_of_ble_eq_true rfl) dX3_assign_49 ⟨Nat.le_of_ble_eq_true rfl, Nat.le_of_ble_eq_true rfl⟩ (fun u H locs hw hP hD hS => ?_)
    subst hw
    have hP : va_P D vwCl (wCA a cI cZ ((othS (B) ((pt R 0 (rc) (cu))) (E) (rc) n (td)).1) ((othS (B) ((pt R 0 (rc) (cu))) (E) (rc) n (td)).2.1) ((othS (B) ((pt R 0 (rc) (cu))) (E) (rc) n (td)).2.2) (td)) H := hP
    have hD : va_D A (wCA a cI cZ ((othS (B) ((pt R 0 (rc) (cu))) (E) (rc) n (td)).1) ((othS (B) ((pt R 0 (rc) (cu))) (E) (rc) n (td)).2.1) ((othS (B) ((pt R 0 (rc) (cu))) (E) (rc) n (td)).2.2) (td)) := hD
    refine lv_aload_n hx hb dX3_assign_52 rfl (lv_at hl 0 rfl) ?_
    refine va_get (D := D) (ci := 3) (v := .ref (a 13)) (C := RX3) (T := TX3) (N := 4) hx hb hts (fun w h => List.mem_cons_of_mem _ (List.mem_append_left _ (List.mem_append_left _ (List.mem_append_left _ (List.mem_append_left _ (List.mem_append_left _ (List.mem_append_right _ h))))))) hown hK hP 0 rfl rfl 1 (by decide) (hts (.fieldLink RX3 19 "CashAllocator" "receiptBook" "LCashAllocator$ReceiptBook;") (by decide +kernel)) (fun _ h9 => h9) rfl dX3_assign_53 ?_
    refine va_get (D := D) (ci := 2) (v := .ref (a 17)) (C := RX2) (T := TX2) (N := 9) hx hb hts (fun w h => List.mem_cons_of_mem _ (List.mem_append_left _ (List.mem_append_left _ (List.mem_append_left _ (List.mem_append_left _ (List.mem_append_right _ h)))))) hown hK hP 13 rfl rfl 3 (by decide) (hts (.fieldLink RX3 85 "CashAllocator$ReceiptBook" "unapplied" "[I") (by decide +kernel)) (fun _ h9 => h9) rfl dX3_assign_56 ?_
    refine lv_iload_n hx hb dX3_assign_59 rfl (lv_at hl 1 rfl) ?_
    refine zald hx hb hK hP 17 (n := 30) (f := (((othS (B) ((pt R 0 (rc) (cu))) (E) (rc) n (td)).2.1) 3)) rfl (rc) rfl (by omega) (by decide) dX3_assign_60 ?_
    exact W.iret (v := ((othS (B) ((pt R 0 (rc) (cu))) (E) (rc) n (td)).2.1) 3 (rc)) hx hb hr (fun t ht hW => ⟨⟨((othS (B) ((pt R 0 (rc) (cu))) (E) (rc) n (td)).2.1) 3 (rc), (((othS (B) ((pt R 0 (rc) (cu))) (E) (rc) n (td)).1), ((othS (B) ((pt R 0 (rc) (cu))) (E) (rc) n (td)).2.1), ((othS (B) ((pt R 0 (rc) (cu))) (E) (rc) n (td)).2.2)), rfl, ⟨rfl, rfl⟩, by rw [ht]; exact hP, va_K.moved hW.alike hK, hD⟩, hS.F ht⟩) hS.2.2 dX3_assign_61
  · -- 24 on
    exact absurd h0 c24
set_option maxHeartbeats 4000000 in
set_option maxRecDepth 100000 in
theorem c_X3_apply (l : Launch) (D : va_G) (cI cZ : ClassId) (a : Nat → Nat) (sz : Nat) (B : Nat → Nat → Int32) (R : Nat → Nat → Int32) (E : Nat → Nat → Int32) (td : Int32) (n : Nat) (q : Nat) (rc : Nat) (hB : B 11 0 = nI n) (hn : n ≤ 40) (hR : R 8 0 = nI q) (hq : q ≤ 30) (hrq : rc < q) (h5 : R 5 rc = 0) (h0 : ¬ R 0 rc = -1) : Met l yX3_apply wsX3_apply ({ frames := 6, cells := 0, slots := 0, locals := 136 } : Room) (va_Pc [.ref (a 0), .int (nI (rc))] (PreW D cI cZ (wCA a cI cZ B R E (td)) sz)) (va_Qi (fun (r : Int32) (u : (Nat → Nat → Int32) × (Nat → Nat → Int32) × (Nat → Nat → Int32)) => r = (othS B R E rc n td).2.1 3 rc ∧ u = othS B R E rc n td) (fun (u : (Nat → Nat → Int32) × (Nat → Nat → Int32) × (Nat → Nat → Int32)) => PostW D cI cZ (va_A (wCA a cI cZ B R E (td)) sz) (wCA a cI cZ (u.1) (u.2.1) (u.2.2) (td))) (va_A (wCA a cI cZ B R E (td)) sz)) 0 0 (va_A (wCA a cI cZ B R E (td)) sz) := by
  refine Met.ofW (cc := cX3_apply) (maxL := 2) (ret := (some .int)) (by decide) rfl ?_
  intro p e s m args below meth c s₁ BB hml hv
  obtain ⟨rfl, hsz, hP, hK, hD0⟩ := hv
  have hx := BB.exec
  have hb := BB.bytes
  have hr := BB.returns
  have hts := atoms_spec (ws := wsX3_apply) BB.pre
  have hown : s.vm.findClass RX3 = some m.cls := findClass_of_methodNamed BB.named
  have hlocks := BB.notSynchronized
  clear BB
  subst hsz
  have hD := hD0.self (sz := s.heap.size)
  clear hD0
  generalize hAe : va_A (wCA a cI cZ B R E (td)) s.heap.size = A at hD ⊢
  have hA : ∀ q : Nat, s.heap.size ≤ q → A q := fun q h => by rw [← hAe]; exact Or.inr h
  clear hAe
  have hS : va_S A s.heap s.heap [] := va_S.rf
  have hl := lv_entry ([.ref (a 0), .int (nI (rc))]) (n := 2) (Nat.le_of_ble_eq_true rfl)
  rw [lg_entry_eq]
  generalize (lg_sl ([.ref (a 0), .int (nI (rc))]) ++ List.replicate (2 - (lg_sl ([.ref (a 0), .int (nI (rc))])).length) Slot.unset).toArray = ls at hl ⊢
  have hl : lv_has ls 2 [(0, .ref (a 0)), (1, .int (nI (rc)))] := hl
  generalize hHe : s.heap = H at hP
  have hS : va_S A s.heap H [] := by rw [← hHe]; exact va_S.rf
  clear hHe
  generalize hLe : ([] : List Loc) = locs at hS ⊢
  clear hLe
  refine lv_aload_n hx hb dX3_apply_0 rfl (lv_at hl 0 rfl) ?_
  refine lv_iload_n hx hb dX3_apply_1 rfl (lv_at hl 1 rfl) ?_
  refine zcVv (ci := 3) (q0 := 0) (wf := (fun (u : Unit) => (wCA a cI cZ B R E (td)))) (List.range 26) ⟨hx, hb, hml, hown, hts⟩ (zwAll 26 (by decide) rfl hP hD hS hA) hK (c_X3_requireReceipt l D cI cZ a H.size (B) (R) (E) (td) (nI (rc)) (nI_pos (by omega)) (by rw [hR]; exact (nI_ltI (by omega) (by omega)).mpr hrq)) (cwV 1 hts gX3_apply_X3_requireReceipt rfl rfl rfl (by decide +kernel) ⟨Nat.le_of_ble_eq_true rfl, Nat.le_of_ble_eq_true rfl⟩) rfl rfl (by decide) (fun _ => rfl) rfl hl.1 rfl (Nat.le_of_ble_eq_true rfl) dX3_apply_2 ⟨Nat.le_of_ble_eq_true rfl, Nat.le_of_ble_eq_true rfl⟩ (fun u H locs hw hP hD hS => ?_)
  refine lv_aload_n hx hb dX3_apply_5 rfl (lv_at hl 0 rfl) ?_
  refine lv_iload_n hx hb dX3_apply_6 rfl (lv_at hl 1 rfl) ?_
  refine zcVv (ci := 3) (q0 := 0) (wf := (fun (u : Unit) => (wCA a cI cZ B R E (td)))) (List.range 26) ⟨hx, hb, hml, hown, hts⟩ (zwAll 26 (by decide) rfl hP hD hS hA) hK (c_X3_requireNotBounced l D cI cZ a H.size (B) (R) (E) (td) (rc) (by first | assumption | omega) h5) (cwV 1 hts gX3_apply_X3_requireNotBounced rfl rfl rfl (by decide +kernel) ⟨Nat.le_of_ble_eq_true rfl, Nat.le_of_ble_eq_true rfl⟩) rfl rfl (by decide) (fun _ => rfl) rfl hl.1 rfl (Nat.le_of_ble_eq_true rfl) dX3_apply_7 ⟨Nat.le_of_ble_eq_true rfl, Nat.le_of_ble_eq_true rfl⟩ (fun u H locs hw hP hD hS => ?_)
  refine lv_aload_n hx hb dX3_apply_10 rfl (lv_at hl 0 rfl) ?_
  refine va_get (D := D) (ci := 3) (v := .ref (a 13)) (C := RX3) (T := TX3) (N := 4) hx hb hts (fun w h => List.mem_cons_of_mem _ (List.mem_append_left _ (List.mem_append_left _ (List.mem_append_left _ (List.mem_append_left _ (List.mem_append_left _ (List.mem_append_right _ h))))))) hown hK hP 0 rfl rfl 1 (by decide) (hts (.fieldLink RX3 19 "CashAllocator" "receiptBook" "LCashAllocator$ReceiptBook;") (by decide +kernel)) (fun _ h9 => h9) rfl dX3_apply_11 ?_
  refine va_get (D := D) (ci := 2) (v := .ref (a 14)) (C := RX2) (T := TX2) (N := 9) hx hb hts (fun w h => List.mem_cons_of_mem _ (List.mem_append_left _ (List.mem_append_left _ (List.mem_append_left _ (List.mem_append_left _ (List.mem_append_right _ h)))))) hown hK hP 13 rfl rfl 0 (by decide) (hts (.fieldLink RX3 79 "CashAllocator$ReceiptBook" "customer" "[I") (by decide +kernel)) (fun _ h9 => h9) rfl dX3_apply_14 ?_
  refine lv_iload_n hx hb dX3_apply_17 rfl (lv_at hl 1 rfl) ?_
  refine zald hx hb hK hP 14 (n := 30) (f := (R 0)) rfl (rc) rfl (by omega) (by decide) dX3_apply_18 ?_
  refine lv_iconst (v := (-1)) hx hb dX3_apply_19 (by decide) ?_
  refine lv_icmp_ne (tgt := 33) hx hb dX3_apply_20 (by decide) (fun c20 => ?_) (fun c20 => ?_)
  · -- 20 taken
    refine lv_aload_n hx hb dX3_apply_33 rfl (lv_at hl 0 rfl) ?_
    refine lv_iload_n hx hb dX3_apply_34 rfl (lv_at hl 1 rfl) ?_
    refine zcVv (ci := 3) (q0 := 0) (wf := (fun (u : (Nat → Nat → Int32) × (Nat → Nat → Int32) × (Nat → Nat → Int32)) => (wCA a cI cZ (u.1) (u.2.1) (u.2.2) (td)))) (List.range 26) ⟨hx, hb, hml, hown, hts⟩ (zwAll 26 (by decide) rfl hP hD hS hA) hK (c_X3_payOtherBills l D cI cZ a H.size (B) (R) (E) (td) (rc) (n) (by first | assumption | omega) (by first | assumption | omega) (by first | assumption | omega)) (cwV 1 hts gX3_apply_X3_payOtherBills rfl rfl rfl (by decide +kernel) ⟨Nat.le_of_ble_eq_true rfl, Nat.le_of_ble_eq_true rfl⟩) rfl rfl (by decide) (fun _ => rfl) rfl hl.1 rfl (Nat.le_of_ble_eq_true rfl) dX3_apply_35 ⟨Nat.le_of_ble_eq_true rfl, Nat.le_of_ble_eq_true rfl⟩ (fun u H locs hw hP hD hS => ?_)
    subst hw
    have hP : va_P D vwCl (wCA a cI cZ ((othS (B) (R) (E) (rc) n (td)).1) ((othS (B) (R) (E) (rc) n (td)).2.1) ((othS (B) (R) (E) (rc) n (td)).2.2) (td)) H := hP
    have hD : va_D A (wCA a cI cZ ((othS (B) (R) (E) (rc) n (td)).1) ((othS (B) (R) (E) (rc) n (td)).2.1) ((othS (B) (R) (E) (rc) n (td)).2.2) (td)) := hD
    refine lv_aload_n hx hb dX3_apply_38 rfl (lv_at hl 0 rfl) ?_
    refine va_get (D := D) (ci := 3) (v := .ref (a 13)) (C := RX3) (T := TX3) (N := 4) hx hb hts (fun w h => List.mem_cons_of_mem _ (List.mem_append_left _ (List.mem_append_left _ (List.mem_append_left _ (List.mem_append_left _ (List.mem_append_left _ (List.mem_append_right _ h))))))) hown hK hP 0 rfl rfl 1 (by decide) (hts (.fieldLink RX3 19 "CashAllocator" "receiptBook" "LCashAllocator$ReceiptBook;") (by decide +kernel)) (fun _ h9 => h9) rfl dX3_apply_39 ?_
    refine va_get (D := D) (ci := 2) (v := .ref (a 17)) (C := RX2) (T := TX2) (N := 9) hx hb hts (fun w h => List.mem_cons_of_mem _ (List.mem_append_left _ (List.mem_append_left _ (List.mem_append_left _ (List.mem_append_left _ (List.mem_append_right _ h)))))) hown hK hP 13 rfl rfl 3 (by decide) (hts (.fieldLink RX3 85 "CashAllocator$ReceiptBook" "unapplied" "[I") (by decide +kernel)) (fun _ h9 => h9) rfl dX3_apply_42 ?_
    refine lv_iload_n hx hb dX3_apply_45 rfl (lv_at hl 1 rfl) ?_
    refine zald hx hb hK hP 17 (n := 30) (f := (((othS (B) (R) (E) (rc) n (td)).2.1) 3)) rfl (rc) rfl (by omega) (by decide) dX3_apply_46 ?_
    exact W.iret (v := ((othS (B) (R) (E) (rc) n (td)).2.1) 3 (rc)) hx hb hr (fun t ht hW => ⟨⟨((othS (B) (R) (E) (rc) n (td)).2.1) 3 (rc), (((othS (B) (R) (E) (rc) n (td)).1), ((othS (B) (R) (E) (rc) n (td)).2.1), ((othS (B) (R) (E) (rc) n (td)).2.2)), rfl, ⟨rfl, rfl⟩, by rw [ht]; exact hP, va_K.moved hW.alike hK, hD⟩, hS.F ht⟩) hS.2.2 dX3_apply_47
  · -- 20 on
    exact absurd c20 h0
set_option maxHeartbeats 4000000 in
set_option maxRecDepth 100000 in
theorem c_X3_payBack (l : Launch) (D : va_G) (cI cZ : ClassId) (a : Nat → Nat) (sz : Nat) (B : Nat → Nat → Int32) (R : Nat → Nat → Int32) (E : Nat → Nat → Int32) (td : Int32) (q : Nat) (rc : Nat) (hR : R 8 0 = nI q) (hq : q ≤ 30) (hrq : rc < q) (h5 : R 5 rc = 0) (h3 : ¬ R 3 rc = 0) : Met l yX3_payBack wsX3_payBack ({ frames := 1, cells := 0, slots := 0, locals := 22 } : Room) (va_Pc [.ref (a 0), .int (nI (rc))] (PreW D cI cZ (wCA a cI cZ B R E (td)) sz)) (va_Qi (fun (r : Int32) (u : Nat → Nat → Int32) => r = R 3 rc ∧ u = pbR R rc) (fun (u : Nat → Nat → Int32) => PostW D cI cZ (va_A (wCA a cI cZ B R E (td)) sz) (wCA a cI cZ B u E (td))) (va_A (wCA a cI cZ B R E (td)) sz)) 0 0 (va_A (wCA a cI cZ B R E (td)) sz) := by
  refine Met.ofW (cc := cX3_payBack) (maxL := 2) (ret := (some .int)) (by decide) rfl ?_
  intro p e s m args below meth c s₁ BB hml hv
  obtain ⟨rfl, hsz, hP, hK, hD0⟩ := hv
  have hx := BB.exec
  have hb := BB.bytes
  have hr := BB.returns
  have hts := atoms_spec (ws := wsX3_payBack) BB.pre
  have hown : s.vm.findClass RX3 = some m.cls := findClass_of_methodNamed BB.named
  have hlocks := BB.notSynchronized
  clear BB
  subst hsz
  have hD := hD0.self (sz := s.heap.size)
  clear hD0
  generalize hAe : va_A (wCA a cI cZ B R E (td)) s.heap.size = A at hD ⊢
  have hA : ∀ q : Nat, s.heap.size ≤ q → A q := fun q h => by rw [← hAe]; exact Or.inr h
  clear hAe
  have hS : va_S A s.heap s.heap [] := va_S.rf
  have hl := lv_entry ([.ref (a 0), .int (nI (rc))]) (n := 2) (Nat.le_of_ble_eq_true rfl)
  rw [lg_entry_eq]
  generalize (lg_sl ([.ref (a 0), .int (nI (rc))]) ++ List.replicate (2 - (lg_sl ([.ref (a 0), .int (nI (rc))])).length) Slot.unset).toArray = ls at hl ⊢
  have hl : lv_has ls 2 [(0, .ref (a 0)), (1, .int (nI (rc)))] := hl
  generalize hHe : s.heap = H at hP
  have hS : va_S A s.heap H [] := by rw [← hHe]; exact va_S.rf
  clear hHe
  generalize hLe : ([] : List Loc) = locs at hS ⊢
  clear hLe
  refine lv_aload_n hx hb dX3_payBack_0 rfl (lv_at hl 0 rfl) ?_
  refine lv_iload_n hx hb dX3_payBack_1 rfl (lv_at hl 1 rfl) ?_
  refine zcVv (ci := 3) (q0 := 0) (wf := (fun (u : Unit) => (wCA a cI cZ B R E (td)))) (List.range 26) ⟨hx, hb, hml, hown, hts⟩ (zwAll 26 (by decide) rfl hP hD hS hA) hK (c_X3_requireReceipt l D cI cZ a H.size (B) (R) (E) (td) (nI (rc)) (nI_pos (by omega)) (by rw [hR]; exact (nI_ltI (by omega) (by omega)).mpr hrq)) (cwV 1 hts gX3_payBack_X3_requireReceipt rfl rfl rfl (by decide +kernel) ⟨Nat.le_of_ble_eq_true rfl, Nat.le_of_ble_eq_true rfl⟩) rfl rfl (by decide) (fun _ => rfl) rfl hl.1 rfl (Nat.le_of_ble_eq_true rfl) dX3_payBack_2 ⟨Nat.le_of_ble_eq_true rfl, Nat.le_of_ble_eq_true rfl⟩ (fun u H locs hw hP hD hS => ?_)
  refine lv_aload_n hx hb dX3_payBack_5 rfl (lv_at hl 0 rfl) ?_
  refine lv_iload_n hx hb dX3_payBack_6 rfl (lv_at hl 1 rfl) ?_
  refine zcVv (ci := 3) (q0 := 0) (wf := (fun (u : Unit) => (wCA a cI cZ B R E (td)))) (List.range 26) ⟨hx, hb, hml, hown, hts⟩ (zwAll 26 (by decide) rfl hP hD hS hA) hK (c_X3_requireNotBounced l D cI cZ a H.size (B) (R) (E) (td) (rc) (by first | assumption | omega) h5) (cwV 1 hts gX3_payBack_X3_requireNotBounced rfl rfl rfl (by decide +kernel) ⟨Nat.le_of_ble_eq_true rfl, Nat.le_of_ble_eq_true rfl⟩) rfl rfl (by decide) (fun _ => rfl) rfl hl.1 rfl (Nat.le_of_ble_eq_true rfl) dX3_payBack_7 ⟨Nat.le_of_ble_eq_true rfl, Nat.le_of_ble_eq_true rfl⟩ (fun u H locs hw hP hD hS => ?_)
  refine lv_aload_n hx hb dX3_payBack_10 rfl (lv_at hl 0 rfl) ?_
  refine va_get (D := D) (ci := 3) (v := .ref (a 13)) (C := RX3) (T := TX3) (N := 4) hx hb hts (fun w h => List.mem_cons_of_mem _ (List.mem_append_left _ (List.mem_append_left _ (List.mem_append_left _ (List.mem_append_right _ h))))) hown hK hP 0 rfl rfl 1 (by decide) (hts (.fieldLink RX3 19 "CashAllocator" "receiptBook" "LCashAllocator$ReceiptBook;") (by decide +kernel)) (fun _ h9 => h9) rfl dX3_payBack_11 ?_
  refine va_get (D := D) (ci := 2) (v := .ref (a 17)) (C := RX2) (T := TX2) (N := 9) hx hb hts (fun w h => List.mem_cons_of_mem _ (List.mem_append_left _ (List.mem_append_left _ (List.mem_append_right _ h)))) hown hK hP 13 rfl rfl 3 (by decide) (hts (.fieldLink RX3 85 "CashAllocator$ReceiptBook" "unapplied" "[I") (by decide +kernel)) (fun _ h9 => h9) rfl dX3_payBack_14 ?_
  refine lv_iload_n hx hb dX3_payBack_17 rfl (lv_at hl 1 rfl) ?_
  refine zald hx hb hK hP 17 (n := 30) (f := (R 3)) rfl (rc) rfl (by omega) (by decide) dX3_payBack_18 ?_
  refine lv_if_ne (tgt := 32) hx hb dX3_payBack_19 (by decide) (fun c19 => ?_) (fun c19 => ?_)
  · -- 19 taken
    refine lv_aload_n hx hb dX3_payBack_32 rfl (lv_at hl 0 rfl) ?_
    refine va_get (D := D) (ci := 3) (v := .ref (a 13)) (C := RX3) (T := TX3) (N := 4) hx hb hts (fun w h => List.mem_cons_of_mem _ (List.mem_append_left _ (List.mem_append_left _ (List.mem_append_left _ (List.mem_append_right _ h))))) hown hK hP 0 rfl rfl 1 (by decide) (hts (.fieldLink RX3 19 "CashAllocator" "receiptBook" "LCashAllocator$ReceiptBook;") (by decide +kernel)) (fun _ h9 => h9) rfl dX3_payBack_33 ?_
    refine lv_iload_n hx hb dX3_payBack_36 rfl (lv_at hl 1 rfl) ?_
    refine zcVi (ci := 2) (q0 := 0) (wf := (fun (u : Nat → Nat → Int32) => (wCA a cI cZ B u E (td)))) ksRB ⟨hx, hb, hml, hown, hts⟩ (zwRB hP hD hS hA) hK (c_X2_payBackRest l D cI cZ a H.size (R) (rc) (by first | assumption | omega)) (cwV 1 hts gX3_payBack_X2_payBackRest rfl rfl rfl (by decide +kernel) ⟨Nat.le_of_ble_eq_true rfl, Nat.le_of_ble_eq_true rfl⟩) rfl rfl (by decide) (fun _ => zkRB _) rfl hl.1 rfl (Nat.le_of_ble_eq_true rfl) dX3_payBack_37 ⟨Nat.le_of_ble_eq_true rfl, Nat.le_of_ble_eq_true rfl⟩ (fun r37 u H locs hw hP hD hS => ?_)
    obtain ⟨rfl, rfl⟩ := hw
    have hP : va_P D vwCl (wCA a cI cZ B (pbR (R) (rc)) E (td)) H := hP
    have hD : va_D A (wCA a cI cZ B (pbR (R) (rc)) E (td)) := hD
    exact W.iret (v := (R) 3 (rc)) hx hb hr (fun t ht hW => ⟨⟨(R) 3 (rc), (pbR (R) (rc)), rfl, ⟨rfl, rfl⟩, by rw [ht]; exact hP, va_K.moved hW.alike hK, hD⟩, hS.F ht⟩) hS.2.2 dX3_payBack_40
  · -- 19 on
    exact absurd c19 h3
set_option maxHeartbeats 4000000 in
set_option maxRecDepth 100000 in
theorem c_X3_bounce (l : Launch) (D : va_G) (cI cZ : ClassId) (a : Nat → Nat) (sz : Nat) (B : Nat → Nat → Int32) (R : Nat → Nat → Int32) (E : Nat → Nat → Int32) (td : Int32) (n : Nat) (q : Nat) (rc : Nat) (hB : B 11 0 = nI n) (hn : n ≤ 40) (hR : R 8 0 = nI q) (hq : q ≤ 30) (hrq : rc < q) (h5 : R 5 rc = 0) (h4 : R 4 rc ≤ 0) (hz : ∀ j, R 7 j = 0 ∨ R 7 j = 1) : Met l yX3_bounce wsX3_bounce ({ frames := 2, cells := 0, slots := 0, locals := 46 } : Room) (va_Pc [.ref (a 0), .int (nI (rc))] (PreW D cI cZ (wCA a cI cZ B R E (td)) sz)) (va_Qi (fun (r : Int32) (u : (Nat → Nat → Int32) × (Nat → Nat → Int32)) => r = nI (bncL rc n 0 0 B R).1 ∧ u = ((bncL rc n 0 0 B R).2.1, mkB (bncL rc n 0 0 B R).2.2 rc)) (fun (u : (Nat → Nat → Int32) × (Nat → Nat → Int32)) => PostW D cI cZ (va_A (wCA a cI cZ B R E (td)) sz) (wCA a cI cZ (u.1) (u.2) E (td))) (va_A (wCA a cI cZ B R E (td)) sz)) 0 0 (va_A (wCA a cI cZ B R E (td)) sz) := by
  refine Met.ofW (cc := cX3_bounce) (maxL := 4) (ret := (some .int)) (by decide) rfl ?_
  intro p e s m args below meth c s₁ BB hml hv
  obtain ⟨rfl, hsz, hP, hK, hD0⟩ := hv
  have hx := BB.exec
  have hb := BB.bytes
  have hr := BB.returns
  have hts := atoms_spec (ws := wsX3_bounce) BB.pre
  have hown : s.vm.findClass RX3 = some m.cls := findClass_of_methodNamed BB.named
  have hlocks := BB.notSynchronized
  clear BB
  subst hsz
  have hD := hD0.self (sz := s.heap.size)
  clear hD0
  generalize hAe : va_A (wCA a cI cZ B R E (td)) s.heap.size = A at hD ⊢
  have hA : ∀ q : Nat, s.heap.size ≤ q → A q := fun q h => by rw [← hAe]; exact Or.inr h
  clear hAe
  have hS : va_S A s.heap s.heap [] := va_S.rf
  have hl := lv_entry ([.ref (a 0), .int (nI (rc))]) (n := 4) (Nat.le_of_ble_eq_true rfl)
  rw [lg_entry_eq]
  generalize (lg_sl ([.ref (a 0), .int (nI (rc))]) ++ List.replicate (4 - (lg_sl ([.ref (a 0), .int (nI (rc))])).length) Slot.unset).toArray = ls at hl ⊢
  have hl : lv_has ls 4 [(0, .ref (a 0)), (1, .int (nI (rc)))] := hl
  generalize hHe : s.heap = H at hP
  have hS : va_S A s.heap H [] := by rw [← hHe]; exact va_S.rf
  clear hHe
  generalize hLe : ([] : List Loc) = locs at hS ⊢
  clear hLe
  refine lv_aload_n hx hb dX3_bounce_0 rfl (lv_at hl 0 rfl) ?_
  refine lv_iload_n hx hb dX3_bounce_1 rfl (lv_at hl 1 rfl) ?_
  refine zcVv (ci := 3) (q0 := 0) (wf := (fun (u : Unit) => (wCA a cI cZ B R E (td)))) (List.range 26) ⟨hx, hb, hml, hown, hts⟩ (zwAll 26 (by decide) rfl hP hD hS hA) hK (c_X3_requireReceipt l D cI cZ a H.size (B) (R) (E) (td) (nI (rc)) (nI_pos (by omega)) (by rw [hR]; exact (nI_ltI (by omega) (by omega)).mpr hrq)) (cwV 1 hts gX3_bounce_X3_requireReceipt rfl rfl rfl (by decide +kernel) ⟨Nat.le_of_ble_eq_true rfl, Nat.le_of_ble_eq_true rfl⟩) rfl rfl (by decide) (fun _ => rfl) rfl hl.1 rfl (Nat.le_of_ble_eq_true rfl) dX3_bounce_2 ⟨Nat.le_of_ble_eq_true rfl, Nat.le_of_ble_eq_true rfl⟩ (fun u H locs hw hP hD hS => ?_)
  refine lv_aload_n hx hb dX3_bounce_5 rfl (lv_at hl 0 rfl) ?_
  refine lv_iload_n hx hb dX3_bounce_6 rfl (lv_at hl 1 rfl) ?_
  refine zcVv (ci := 3) (q0 := 0) (wf := (fun (u : Unit) => (wCA a cI cZ B R E (td)))) (List.range 26) ⟨hx, hb, hml, hown, hts⟩ (zwAll 26 (by decide) rfl hP hD hS hA) hK (c_X3_requireNotBounced l D cI cZ a H.size (B) (R) (E) (td) (rc) (by first | assumption | omega) h5) (cwV 1 hts gX3_bounce_X3_requireNotBounced rfl rfl rfl (by decide +kernel) ⟨Nat.le_of_ble_eq_true rfl, Nat.le_of_ble_eq_true rfl⟩) rfl rfl (by decide) (fun _ => rfl) rfl hl.1 rfl (Nat.le_of_ble_eq_true rfl) dX3_bounce_7 ⟨Nat.le_of_ble_eq_true rfl, Nat.le_of_ble_eq_true rfl⟩ (fun u H locs hw hP hD hS => ?_)
  refine lv_aload_n hx hb dX3_bounce_10 rfl (lv_at hl 0 rfl) ?_
  refine va_get (D := D) (ci := 3) (v := .ref (a 13)) (C := RX3) (T := TX3) (N := 4) hx hb hts (fun w h => List.mem_cons_of_mem _ (List.mem_append_left _ (List.mem_append_left _ (List.mem_append_left _ (List.mem_append_left _ (List.mem_append_right _ h)))))) hown hK hP 0 rfl rfl 1 (by decide) (hts (.fieldLink RX3 19 "CashAllocator" "receiptBook" "LCashAllocator$ReceiptBook;") (by decide +kernel)) (fun _ h9 => h9) rfl dX3_bounce_11 ?_
  refine va_get (D := D) (ci := 2) (v := .ref (a 18)) (C := RX2) (T := TX2) (N := 9) hx hb hts (fun w h => List.mem_cons_of_mem _ (List.mem_append_left _ (List.mem_append_left _ (List.mem_append_left _ (List.mem_append_right _ h))))) hown hK hP 13 rfl rfl 4 (by decide) (hts (.fieldLink RX3 96 "CashAllocator$ReceiptBook" "paidBack" "[I") (by decide +kernel)) (fun _ h9 => h9) rfl dX3_bounce_14 ?_
  refine lv_iload_n hx hb dX3_bounce_17 rfl (lv_at hl 1 rfl) ?_
  refine zald hx hb hK hP 18 (n := 30) (f := (R 4)) rfl (rc) rfl (by omega) (by decide) dX3_bounce_18 ?_
  refine lv_if_le (tgt := 32) hx hb dX3_bounce_19 (by decide) (fun c19 => ?_) (fun c19 => ?_)
  · -- 19 taken
    refine lv_iconst (v := nI (0)) hx hb dX3_bounce_32 (by decide) ?_
    refine lv_istore_n (lv' := [(2, .int (nI (0))), (0, .ref (a 0)), (1, .int (nI (rc)))]) hx hb dX3_bounce_33 rfl hl (by decide) rfl (fun ls hl => ?_)
    refine lv_iconst (v := nI (0)) hx hb dX3_bounce_34 (by decide) ?_
    refine lv_istore_n (lv' := [(3, .int (nI (0))), (2, .int (nI (0))), (0, .ref (a 0)), (1, .int (nI (rc)))]) hx hb dX3_bounce_35 rfl hl (by decide) rfl (fun ls hl => ?_)
    have loop36 : ∀ (fu : Nat) (i : Nat) (uu : Nat) (Bi : Nat → Nat → Int32) (Ri : Nat → Nat → Int32) (hin : i ≤ n) (hBi : Bi 11 0 = nI n) (hzi : ∀ j, Ri 7 j = 0 ∨ Ri 7 j = 1) (hg : bncL rc n 0 0 B R = bncL rc (n - i) i uu Bi Ri) (hfu : n - i < fu) (H : Heap) (locs : List Loc) (hP : va_P D vwCl (wCA a cI cZ Bi Ri E (td)) H) (hD : va_D A (wCA a cI cZ Bi Ri E (td))) (hS : va_S A s.heap H locs) (ls : Array Slot) (hl : lv_has ls 4 [(3, .int (nI (i))), (2, .int (nI (uu))), (0, .ref (a 0)), (1, .int (nI (rc)))]), W p l e (headSpec wsX3_bounce ({ frames := 2, cells := 0, slots := 0, locals := 46 } : Room)).room s m ([.ref (a 0), .int (nI (rc))] : List Value).toArray below meth c H locs 0 0 (MQ below (va_Qi (fun (r : Int32) (u : (Nat → Nat → Int32) × (Nat → Nat → Int32)) => r = nI (bncL rc n 0 0 B R).1 ∧ u = ((bncL rc n 0 0 B R).2.1, mkB (bncL rc n 0 0 B R).2.2 rc)) (fun (u : (Nat → Nat → Int32) × (Nat → Nat → Int32)) => PostW D cI cZ A (wCA a cI cZ (u.1) (u.2) E (td))) A) ([.ref (a 0), .int (nI (rc))] : List Value).toArray s 0 0 A) (F0 m 36 ls []) := by
      clear hP hD hS hl
      intro fu36
      induction fu36 with
      | zero => intro i uu Bi Ri hin hBi hzi hg hfu; exact absurd hfu (Nat.not_lt_zero _)
      | succ fu36 ih36 =>
        intro i uu Bi Ri hin hBi hzi hg hfu H locs hP hD hS ls hl
        refine lv_iload_n hx hb dX3_bounce_36 rfl (lv_at hl 0 rfl) ?_
        refine lv_aload_n hx hb dX3_bounce_37 rfl (lv_at hl 2 rfl) ?_
        refine va_get (D := D) (ci := 3) (v := .ref (a 1)) (C := RX3) (T := TX3) (N := 4) hx hb hts (fun w h => List.mem_cons_of_mem _ (List.mem_append_left _ (List.mem_append_left _ (List.mem_append_left _ (List.mem_append_left _ (List.mem_append_right _ h)))))) hown hK hP 0 rfl rfl 0 (by decide) (hts (.fieldLink RX3 10 "CashAllocator" "billBook" "LCashAllocator$BillBook;") (by decide +kernel)) (fun _ h9 => h9) rfl dX3_bounce_38 ?_
        refine va_get (D := D) (ci := 0) (v := .int (nI (n))) (C := RX0) (T := TX0) (N := 12) hx hb hts (fun w h => List.mem_cons_of_mem _ (List.mem_append_left _ (List.mem_append_left _ (List.mem_append_right _ h)))) hown hK hP 1 rfl rfl 11 (by decide) (hts (.fieldLink RX3 43 "CashAllocator$BillBook" "count" "I") (by decide +kernel)) (fun _ h9 => h9) (congrArg (fun z => some (Value.int z)) hBi) dX3_bounce_41 ?_
        refine lv_icmp_ge (tgt := 95) hx hb dX3_bounce_44 (by decide) (fun c44 => ?_) (fun c44 => ?_)
        · -- 44 taken
          rw [nI_leI (by omega) (by omega)] at c44
          have hfin : bncL rc n 0 0 B R = (uu, Bi, Ri) := by rw [hg, show n - i = 0 by omega]; rfl
          refine lv_aload_n hx hb dX3_bounce_95 rfl (lv_at hl 2 rfl) ?_
          refine va_get (D := D) (ci := 3) (v := .ref (a 13)) (C := RX3) (T := TX3) (N := 4) hx hb hts (fun w h => List.mem_cons_of_mem _ (List.mem_append_left _ (List.mem_append_left _ (List.mem_append_left _ (List.mem_append_left _ (List.mem_append_right _ h)))))) hown hK hP 0 rfl rfl 1 (by decide) (hts (.fieldLink RX3 19 "CashAllocator" "receiptBook" "LCashAllocator$ReceiptBook;") (by decide +kernel)) (fun _ h9 => h9) rfl dX3_bounce_96 ?_
          refine lv_iload_n hx hb dX3_bounce_99 rfl (lv_at hl 3 rfl) ?_
          refine zcVv (ci := 2) (q0 := 0) (wf := (fun (u : Nat → Nat → Int32) => (wCA a cI cZ Bi u E (td)))) ksRB ⟨hx, hb, hml, hown, hts⟩ (zwRB hP hD hS hA) hK (c_X2_markBounced l D cI cZ a H.size (Ri) (rc) (by first | assumption | omega)) (cwV 1 hts gX3_bounce_X2_markBounced rfl rfl rfl (by decide +kernel) ⟨Nat.le_of_ble_eq_true rfl, Nat.le_of_ble_eq_true rfl⟩) rfl rfl (by decide) (fun _ => zkRB _) rfl hl.1 rfl (Nat.le_of_ble_eq_true rfl) dX3_bounce_100 ⟨Nat.le_of_ble_eq_true rfl, Nat.le_of_ble_eq_true rfl⟩ (fun u H locs hw hP hD hS => ?_)
          subst hw
          have hP : va_P D vwCl (wCA a cI cZ Bi (mkB (Ri) (rc)) E (td)) H := hP
          have hD : va_D A (wCA a cI cZ Bi (mkB (Ri) (rc)) E (td)) := hD
          refine lv_iload_n hx hb dX3_bounce_103 rfl (lv_at hl 1 rfl) ?_
          exact W.iret (v := nI (uu)) hx hb hr (fun t ht hW => ⟨⟨nI (uu), (Bi, (mkB (Ri) (rc))), rfl, ⟨by rw [hfin], by rw [hfin]⟩, by rw [ht]; exact hP, va_K.moved hW.alike hK, hD⟩, hS.F ht⟩) hS.2.2 dX3_bounce_104
        · -- 44 on
          rw [nI_leI (by omega) (by omega)] at c44
          have c44 : i < n := by omega
          have hk : n - i = (n - (i + 1)) + 1 := by omega
          rw [hk] at hg
          refine lv_aload_n hx hb dX3_bounce_47 rfl (lv_at hl 2 rfl) ?_
          refine va_get (D := D) (ci := 3) (v := .ref (a 13)) (C := RX3) (T := TX3) (N := 4) hx hb hts (fun w h => List.mem_cons_of_mem _ (List.mem_append_left _ (List.mem_append_left _ (List.mem_append_left _ (List.mem_append_left _ (List.mem_append_right _ h)))))) hown hK hP 0 rfl rfl 1 (by decide) (hts (.fieldLink RX3 19 "CashAllocator" "receiptBook" "LCashAllocator$ReceiptBook;") (by decide +kernel)) (fun _ h9 => h9) rfl dX3_bounce_48 ?_
          refine lv_iload_n hx hb dX3_bounce_51 rfl (lv_at hl 3 rfl) ?_
          refine lv_iload_n hx hb dX3_bounce_52 rfl (lv_at hl 0 rfl) ?_
          refine zcVi (ci := 2) (q0 := 0) (wf := (fun (u : Unit) => (wCA a cI cZ Bi Ri E (td)))) ksRB ⟨hx, hb, hml, hown, hts⟩ (zwRB hP hD hS hA) hK (c_X2_hasPaid l D cI cZ a H.size (Ri) (rc) (i) (by first | assumption | omega) (by first | assumption | omega) (hzi _)) (cwV 2 hts gX3_bounce_X2_hasPaid rfl rfl rfl (by decide +kernel) ⟨Nat.le_of_ble_eq_true rfl, Nat.le_of_ble_eq_true rfl⟩) rfl rfl (by decide) (fun _ => zkRB _) rfl hl.1 rfl (Nat.le_of_ble_eq_true rfl) dX3_bounce_53 ⟨Nat.le_of_ble_eq_true rfl, Nat.le_of_ble_eq_true rfl⟩ (fun r53 u H locs hw hP hD hS => ?_)
          subst hw
          refine lv_if_eq (tgt := 89) hx hb dX3_bounce_56 (by decide) (fun c56 => ?_) (fun c56 => ?_)
          · -- 56 taken
            refine lv_iinc (v := nI (i + 1)) (lv' := [(3, .int (nI (i + 1))), (2, .int (nI (uu))), (0, .ref (a 0)), (1, .int (nI (rc)))]) hx hb dX3_bounce_89 hl (k := 0) rfl (nI_1 _) (by decide) rfl (fun ls hl => ?_)
            refine lv_goto (tgt := 36) hx hb dX3_bounce_92 (by decide) ?_
            exact ih36 (i + 1) uu Bi Ri (by omega) hBi hzi (by rw [hg, bncL, if_pos c56]) (by omega) _ _ hP hD hS _ (lv_sub hl [0, 1, 2, 3] rfl)
          · -- 56 on
            refine lv_aload_n hx hb dX3_bounce_59 rfl (lv_at hl 2 rfl) ?_
            refine va_get (D := D) (ci := 3) (v := .ref (a 1)) (C := RX3) (T := TX3) (N := 4) hx hb hts (fun w h => List.mem_cons_of_mem _ (List.mem_append_left _ (List.mem_append_left _ (List.mem_append_left _ (List.mem_append_left _ (List.mem_append_right _ h)))))) hown hK hP 0 rfl rfl 0 (by decide) (hts (.fieldLink RX3 10 "CashAllocator" "billBook" "LCashAllocator$BillBook;") (by decide +kernel)) (fun _ h9 => h9) rfl dX3_bounce_60 ?_
            refine lv_iload_n hx hb dX3_bounce_63 rfl (lv_at hl 0 rfl) ?_
            refine lv_iload_n hx hb dX3_bounce_64 rfl (lv_at hl 3 rfl) ?_
            refine lv_aload_n hx hb dX3_bounce_65 rfl (lv_at hl 2 rfl) ?_
            refine va_get (D := D) (ci := 3) (v := .ref (a 13)) (C := RX3) (T := TX3) (N := 4) hx hb hts (fun w h => List.mem_cons_of_mem _ (List.mem_append_left _ (List.mem_append_left _ (List.mem_append_left _ (List.mem_append_left _ (List.mem_append_right _ h)))))) hown hK hP 0 rfl rfl 1 (by decide) (hts (.fieldLink RX3 19 "CashAllocator" "receiptBook" "LCashAllocator$ReceiptBook;") (by decide +kernel)) (fun _ h9 => h9) rfl dX3_bounce_66 ?_
            refine lv_iload_n hx hb dX3_bounce_69 rfl (lv_at hl 3 rfl) ?_
            refine lv_iload_n hx hb dX3_bounce_70 rfl (lv_at hl 0 rfl) ?_
            refine zcVi (ci := 2) (q0 := 0) (wf := (fun (u : Unit) => (wCA a cI cZ Bi Ri E (td)))) ksRB ⟨hx, hb, hml, hown, hts⟩ (zwRB hP hD hS hA) hK (c_X2_paidOf l D cI cZ a H.size (Ri) (rc) (i) (by first | assumption | omega) (by first | assumption | omega)) (cwV 2 hts gX3_bounce_X2_paidOf rfl rfl rfl (by decide +kernel) ⟨Nat.le_of_ble_eq_true rfl, Nat.le_of_ble_eq_true rfl⟩) rfl rfl (by decide) (fun _ => zkRB _) rfl hl.1 rfl (Nat.le_of_ble_eq_true rfl) dX3_bounce_71 ⟨Nat.le_of_ble_eq_true rfl, Nat.le_of_ble_eq_true rfl⟩ (fun r71 u H locs hw hP hD hS => ?_)
            subst hw
            refine zcVv (ci := 0) (q0 := 0) (wf := (fun (u : Nat → Nat → Int32) => (wCA a cI cZ u Ri E (td)))) ksBB ⟨hx, hb, hml, hown, hts⟩ (zwBB hP hD hS hA) hK (c_X0_undo l D cI cZ a H.size (Bi) (i) (nI (rc)) ((Ri) 6 (40 * (rc) + (i))) (by first | assumption | omega)) (cwV 3 hts gX3_bounce_X0_undo rfl rfl rfl (by decide +kernel) ⟨Nat.le_of_ble_eq_true rfl, Nat.le_of_ble_eq_true rfl⟩) rfl rfl (by decide) (fun _ => zkBB _) rfl hl.1 rfl (Nat.le_of_ble_eq_true rfl) dX3_bounce_74 ⟨Nat.le_of_ble_eq_true rfl, Nat.le_of_ble_eq_true rfl⟩ (fun u H locs hw hP hD hS => ?_)
            subst hw
            have hP : va_P D vwCl (wCA a cI cZ (und (Bi) (i) (nI (rc)) ((Ri) 6 (40 * (rc) + (i)))) Ri E (td)) H := hP
            have hD : va_D A (wCA a cI cZ (und (Bi) (i) (nI (rc)) ((Ri) 6 (40 * (rc) + (i)))) Ri E (td)) := hD
            refine lv_aload_n hx hb dX3_bounce_77 rfl (lv_at hl 2 rfl) ?_
            refine va_get (D := D) (ci := 3) (v := .ref (a 13)) (C := RX3) (T := TX3) (N := 4) hx hb hts (fun w h => List.mem_cons_of_mem _ (List.mem_append_left _ (List.mem_append_left _ (List.mem_append_left _ (List.mem_append_left _ (List.mem_append_right _ h)))))) hown hK hP 0 rfl rfl 1 (by decide) (hts (.fieldLink RX3 19 "CashAllocator" "receiptBook" "LCashAllocator$ReceiptBook;") (by decide +kernel)) (fun _ h9 => h9) rfl dX3_bounce_78 ?_
            refine lv_iload_n hx hb dX3_bounce_81 rfl (lv_at hl 3 rfl) ?_
            refine lv_iload_n hx hb dX3_bounce_82 rfl (lv_at hl 0 rfl) ?_
            refine zcVv (ci := 2) (q0 := 0) (wf := (fun (u : Nat → Nat → Int32) => (wCA a cI cZ (und (Bi) (i) (nI (rc)) ((Ri) 6 (40 * (rc) + (i)))) u E (td)))) ksRB ⟨hx, hb, hml, hown, hts⟩ (zwRB hP hD hS hA) hK (c_X2_dropPayment l D cI cZ a H.size (Ri) (rc) (i) (by first | assumption | omega) (by first | assumption | omega)) (cwV 2 hts gX3_bounce_X2_dropPayment rfl rfl rfl (by decide +kernel) ⟨Nat.le_of_ble_eq_true rfl, Nat.le_of_ble_eq_true rfl⟩) rfl rfl (by decide) (fun _ => zkRB _) rfl hl.1 rfl (Nat.le_of_ble_eq_true rfl) dX3_bounce_83 ⟨Nat.le_of_ble_eq_true rfl, Nat.le_of_ble_eq_true rfl⟩ (fun u H locs hw hP hD hS => ?_)
            subst hw
            have hP : va_P D vwCl (wCA a cI cZ (und (Bi) (i) (nI (rc)) ((Ri) 6 (40 * (rc) + (i)))) (drpP (Ri) (rc) (i)) E (td)) H := hP
            have hD : va_D A (wCA a cI cZ (und (Bi) (i) (nI (rc)) ((Ri) 6 (40 * (rc) + (i)))) (drpP (Ri) (rc) (i)) E (td)) := hD
            refine lv_iinc (v := nI (uu + 1)) (lv' := [(2, .int (nI (uu + 1))), (3, .int (nI (i))), (0, .ref (a 0)), (1, .int (nI (rc)))]) hx hb dX3_bounce_86 hl (k := 1) rfl (nI_1 _) (by decide) rfl (fun ls hl => ?_)
            refine lv_iinc (v := nI (i + 1)) (lv' := [(3, .int (nI (i + 1))), (2, .int (nI (uu + 1))), (0, .ref (a 0)), (1, .int (nI (rc)))]) hx hb dX3_bounce_89 hl (k := 1) rfl (nI_1 _) (by decide) rfl (fun ls hl => ?_)
            refine lv_goto (tgt := 36) hx hb dX3_bounce_92 (by decide) ?_
            exact ih36 (i + 1) (uu + 1) (und Bi i (nI rc) (Ri 6 (40 * rc + i))) (drpP Ri rc i) (by omega) (by rw [und_n]; exact hBi) (drpP_z hzi) (by rw [hg, bncL, if_neg c56]) (by omega) _ _ hP hD hS _ (lv_sub hl [0, 1, 2, 3] rfl)
    exact loop36 _ (0) (0) (B) (R) (Nat.zero_le _) (hB) (hz) (rfl) (Nat.lt_succ_self _) _ _ hP hD hS _ (lv_sub hl [0, 1, 2, 3] rfl)
  · -- 19 on
    exact absurd h4 c19
set_option maxHeartbeats 4000000 in
set_option maxRecDepth 100000 in
theorem c_X3_settle (l : Launch) (D : va_G) (cI cZ : ClassId) (a : Nat → Nat) (sz : Nat) (B : Nat → Nat → Int32) (R : Nat → Nat → Int32) (E : Nat → Nat → Int32) (td : Int32) (n : Nat) (i : Nat) (zz : Int32) (hB : B 11 0 = nI n) (hn : n ≤ 40) (hbn : i < n) (h8 : ¬ B 8 i = 0) : Met l yX3_settle wsX3_settle ({ frames := 1, cells := 0, slots := 0, locals := 23 } : Room) (va_Pc [.ref (a 0), .int (nI (i)), .int (zz)] (PreW D cI cZ (wCA a cI cZ B R E (td)) sz)) (va_Qi (fun (r : Int32) (u : Nat → Nat → Int32) => r = B 8 i ∧ u = edD B i zz) (fun (u : Nat → Nat → Int32) => PostW D cI cZ (va_A (wCA a cI cZ B R E (td)) sz) (wCA a cI cZ u R E (td))) (va_A (wCA a cI cZ B R E (td)) sz)) 0 0 (va_A (wCA a cI cZ B R E (td)) sz) := by
  refine Met.ofW (cc := cX3_settle) (maxL := 3) (ret := (some .int)) (by decide) rfl ?_
  intro p e s m args below meth c s₁ BB hml hv
  obtain ⟨rfl, hsz, hP, hK, hD0⟩ := hv
  have hx := BB.exec
  have hb := BB.bytes
  have hr := BB.returns
  have hts := atoms_spec (ws := wsX3_settle) BB.pre
  have hown : s.vm.findClass RX3 = some m.cls := findClass_of_methodNamed BB.named
  have hlocks := BB.notSynchronized
  clear BB
  subst hsz
  have hD := hD0.self (sz := s.heap.size)
  clear hD0
  generalize hAe : va_A (wCA a cI cZ B R E (td)) s.heap.size = A at hD ⊢
  have hA : ∀ q : Nat, s.heap.size ≤ q → A q := fun q h => by rw [← hAe]; exact Or.inr h
  clear hAe
  have hS : va_S A s.heap s.heap [] := va_S.rf
  have hl := lv_entry ([.ref (a 0), .int (nI (i)), .int (zz)]) (n := 3) (Nat.le_of_ble_eq_true rfl)
  rw [lg_entry_eq]
  generalize (lg_sl ([.ref (a 0), .int (nI (i)), .int (zz)]) ++ List.replicate (3 - (lg_sl ([.ref (a 0), .int (nI (i)), .int (zz)])).length) Slot.unset).toArray = ls at hl ⊢
  have hl : lv_has ls 3 [(0, .ref (a 0)), (1, .int (nI (i))), (2, .int (zz))] := hl
  generalize hHe : s.heap = H at hP
  have hS : va_S A s.heap H [] := by rw [← hHe]; exact va_S.rf
  clear hHe
  generalize hLe : ([] : List Loc) = locs at hS ⊢
  clear hLe
  refine lv_aload_n hx hb dX3_settle_0 rfl (lv_at hl 0 rfl) ?_
  refine lv_iload_n hx hb dX3_settle_1 rfl (lv_at hl 1 rfl) ?_
  refine zcVv (ci := 3) (q0 := 0) (wf := (fun (u : Unit) => (wCA a cI cZ B R E (td)))) (List.range 26) ⟨hx, hb, hml, hown, hts⟩ (zwAll 26 (by decide) rfl hP hD hS hA) hK (c_X3_requireBill l D cI cZ a H.size (B) (R) (E) (td) (nI (i)) (nI_pos (by omega)) (by rw [hB]; exact (nI_ltI (by omega) (by omega)).mpr hbn)) (cwV 1 hts gX3_settle_X3_requireBill rfl rfl rfl (by decide +kernel) ⟨Nat.le_of_ble_eq_true rfl, Nat.le_of_ble_eq_true rfl⟩) rfl rfl (by decide) (fun _ => rfl) rfl hl.1 rfl (Nat.le_of_ble_eq_true rfl) dX3_settle_2 ⟨Nat.le_of_ble_eq_true rfl, Nat.le_of_ble_eq_true rfl⟩ (fun u H locs hw hP hD hS => ?_)
  refine lv_aload_n hx hb dX3_settle_5 rfl (lv_at hl 0 rfl) ?_
  refine va_get (D := D) (ci := 3) (v := .ref (a 1)) (C := RX3) (T := TX3) (N := 4) hx hb hts (fun w h => List.mem_cons_of_mem _ (List.mem_append_left _ (List.mem_append_left _ (List.mem_append_left _ (List.mem_append_right _ h))))) hown hK hP 0 rfl rfl 0 (by decide) (hts (.fieldLink RX3 10 "CashAllocator" "billBook" "LCashAllocator$BillBook;") (by decide +kernel)) (fun _ h9 => h9) rfl dX3_settle_6 ?_
  refine va_get (D := D) (ci := 0) (v := .ref (a 10)) (C := RX0) (T := TX0) (N := 12) hx hb hts (fun w h => List.mem_cons_of_mem _ (List.mem_append_left _ (List.mem_append_left _ (List.mem_append_right _ h)))) hown hK hP 1 rfl rfl 8 (by decide) (hts (.fieldLink RX3 120 "CashAllocator$BillBook" "disputed" "[I") (by decide +kernel)) (fun _ h9 => h9) rfl dX3_settle_9 ?_
  refine lv_iload_n hx hb dX3_settle_12 rfl (lv_at hl 1 rfl) ?_
  refine zald hx hb hK hP 10 (n := 40) (f := (B 8)) rfl (i) rfl (by omega) (by decide) dX3_settle_13 ?_
  refine lv_if_ne (tgt := 27) hx hb dX3_settle_14 (by decide) (fun c14 => ?_) (fun c14 => ?_)
  · -- 14 taken
    refine lv_aload_n hx hb dX3_settle_27 rfl (lv_at hl 0 rfl) ?_
    refine va_get (D := D) (ci := 3) (v := .ref (a 1)) (C := RX3) (T := TX3) (N := 4) hx hb hts (fun w h => List.mem_cons_of_mem _ (List.mem_append_left _ (List.mem_append_left _ (List.mem_append_left _ (List.mem_append_right _ h))))) hown hK hP 0 rfl rfl 0 (by decide) (hts (.fieldLink RX3 10 "CashAllocator" "billBook" "LCashAllocator$BillBook;") (by decide +kernel)) (fun _ h9 => h9) rfl dX3_settle_28 ?_
    refine lv_iload_n hx hb dX3_settle_31 rfl (lv_at hl 1 rfl) ?_
    refine lv_iload_n hx hb dX3_settle_32 rfl (lv_at hl 2 rfl) ?_
    refine zcVi (ci := 0) (q0 := 0) (wf := (fun (u : Nat → Nat → Int32) => (wCA a cI cZ u R E (td)))) ksBB ⟨hx, hb, hml, hown, hts⟩ (zwBB hP hD hS hA) hK (c_X0_endDispute l D cI cZ a H.size (B) (i) (zz) (by first | assumption | omega)) (cwV 2 hts gX3_settle_X0_endDispute rfl rfl rfl (by decide +kernel) ⟨Nat.le_of_ble_eq_true rfl, Nat.le_of_ble_eq_true rfl⟩) rfl rfl (by decide) (fun _ => zkBB _) rfl hl.1 rfl (Nat.le_of_ble_eq_true rfl) dX3_settle_33 ⟨Nat.le_of_ble_eq_true rfl, Nat.le_of_ble_eq_true rfl⟩ (fun r33 u H locs hw hP hD hS => ?_)
    obtain ⟨rfl, rfl⟩ := hw
    have hP : va_P D vwCl (wCA a cI cZ (edD (B) (i) (zz)) R E (td)) H := hP
    have hD : va_D A (wCA a cI cZ (edD (B) (i) (zz)) R E (td)) := hD
    exact W.iret (v := (B) 8 (i)) hx hb hr (fun t ht hW => ⟨⟨(B) 8 (i), (edD (B) (i) (zz)), rfl, ⟨rfl, rfl⟩, by rw [ht]; exact hP, va_K.moved hW.alike hK, hD⟩, hS.F ht⟩) hS.2.2 dX3_settle_36
  · -- 14 on
    exact absurd c14 h8
set_option maxHeartbeats 4000000 in
set_option maxRecDepth 100000 in
theorem c_X3_advance (l : Launch) (D : va_G) (cI cZ : ClassId) (a : Nat → Nat) (sz : Nat) (B : Nat → Nat → Int32) (R : Nat → Nat → Int32) (E : Nat → Nat → Int32) (td : Int32) (dd : Int32) (h1 : ¬ dd < 1) (h2 : dd ≤ 100) : Met l yX3_advance wsX3_advance ({ frames := 1, cells := 0, slots := 0, locals := 22 } : Room) (va_Pc [.ref (a 0), .int (dd)] (PreW D cI cZ (wCA a cI cZ B R E (td)) sz)) (va_Qi (fun (r : Int32) (u : Int32) => r = td + dd ∧ u = td + dd) (fun (u : Int32) => PostW D cI cZ (va_A (wCA a cI cZ B R E (td)) sz) (wCA a cI cZ B R E (u))) (va_A (wCA a cI cZ B R E (td)) sz)) 0 0 (va_A (wCA a cI cZ B R E (td)) sz) := by
  refine Met.ofW (cc := cX3_advance) (maxL := 2) (ret := (some .int)) (by decide) rfl ?_
  intro p e s m args below meth c s₁ BB hml hv
  obtain ⟨rfl, hsz, hP, hK, hD0⟩ := hv
  have hx := BB.exec
  have hb := BB.bytes
  have hr := BB.returns
  have hts := atoms_spec (ws := wsX3_advance) BB.pre
  have hown : s.vm.findClass RX3 = some m.cls := findClass_of_methodNamed BB.named
  have hlocks := BB.notSynchronized
  clear BB
  subst hsz
  have hD := hD0.self (sz := s.heap.size)
  clear hD0
  generalize hAe : va_A (wCA a cI cZ B R E (td)) s.heap.size = A at hD ⊢
  have hA : ∀ q : Nat, s.heap.size ≤ q → A q := fun q h => by rw [← hAe]; exact Or.inr h
  clear hAe
  have hS : va_S A s.heap s.heap [] := va_S.rf
  have hl := lv_entry ([.ref (a 0), .int (dd)]) (n := 2) (Nat.le_of_ble_eq_true rfl)
  rw [lg_entry_eq]
  generalize (lg_sl ([.ref (a 0), .int (dd)]) ++ List.replicate (2 - (lg_sl ([.ref (a 0), .int (dd)])).length) Slot.unset).toArray = ls at hl ⊢
  have hl : lv_has ls 2 [(0, .ref (a 0)), (1, .int (dd))] := hl
  generalize hHe : s.heap = H at hP
  have hS : va_S A s.heap H [] := by rw [← hHe]; exact va_S.rf
  clear hHe
  generalize hLe : ([] : List Loc) = locs at hS ⊢
  clear hLe
  refine lv_iload_n hx hb dX3_advance_0 rfl (lv_at hl 1 rfl) ?_
  refine lv_iconst (v := 1) hx hb dX3_advance_1 (by decide) ?_
  refine lv_bipush (v := 100) hx hb dX3_advance_2 (by decide) ?_
  refine zcSv (wf := (fun (u : Unit) => (wCA a cI cZ B R E (td)))) (List.range 26) ⟨hx, hb, hml, hown, hts⟩ (zwNo 26 (by decide) rfl hP hD hS hA) hK (c_X3_requireWithin l D cI cZ a H.size (dd) (1) (100) (by first | assumption | omega) (by first | assumption | omega)) (cwS 3 hts gX3_advance_X3_requireWithin rfl rfl rfl (by decide +kernel) ⟨Nat.le_of_ble_eq_true rfl, Nat.le_of_ble_eq_true rfl⟩) (by decide) (fun _ => rfl) rfl hl.1 rfl (Nat.le_of_ble_eq_true rfl) dX3_advance_4 ⟨Nat.le_of_ble_eq_true rfl, Nat.le_of_ble_eq_true rfl⟩ (fun u H locs hw hP hD hS => ?_)
  refine lv_aload_n hx hb dX3_advance_7 rfl (lv_at hl 0 rfl) ?_
  refine lv_dup hx hb dX3_advance_8 rfl ?_
  refine va_get (D := D) (ci := 3) (v := .int (td)) (C := RX3) (T := TX3) (N := 4) hx hb hts (fun w h => List.mem_cons_of_mem _ (List.mem_append_left _ (List.mem_append_right _ h))) hown hK hP 0 rfl rfl 3 (by decide) (hts (.fieldLink RX3 30 "CashAllocator" "today" "I") (by decide +kernel)) (fun _ h9 => h9) rfl dX3_advance_9 ?_
  refine lv_iload_n hx hb dX3_advance_12 rfl (lv_at hl 1 rfl) ?_
  refine lv_iadd hx hb dX3_advance_13 ?_
  refine va_put (D := D) (ci := 3) (v := .int ((td) + (dd))) (ty := .int) (C := RX3) (T := TX3) (N := 4) hx hb hts (fun w h => List.mem_cons_of_mem _ (List.mem_append_left _ (List.mem_append_right _ h))) tyX3 tyX3_ok nmX3 hown hK hP hD hS 0 rfl rfl 3 (by decide) (hts (.fieldLink RX3 30 "CashAllocator" "today" "I") (by decide +kernel)) (fun _ h9 => h9) rfl (by decide +kernel) rfl rfl (Nat.le_of_ble_eq_true rfl) dX3_advance_14 (fun H locs hP hD hS => ?_)
  have hP : va_P D vwCl (wCA a cI cZ B R E ((td) + (dd))) H := hP
  have hD : va_D A (wCA a cI cZ B R E ((td) + (dd))) := hD
  refine lv_aload_n hx hb dX3_advance_17 rfl (lv_at hl 0 rfl) ?_
  refine va_get (D := D) (ci := 3) (v := .int ((td) + (dd))) (C := RX3) (T := TX3) (N := 4) hx hb hts (fun w h => List.mem_cons_of_mem _ (List.mem_append_left _ (List.mem_append_right _ h))) hown hK hP 0 rfl rfl 3 (by decide) (hts (.fieldLink RX3 30 "CashAllocator" "today" "I") (by decide +kernel)) (fun _ h9 => h9) rfl dX3_advance_18 ?_
  exact W.iret (v := (td) + (dd)) hx hb hr (fun t ht hW => ⟨⟨(td) + (dd), (td) + (dd), rfl, ⟨rfl, rfl⟩, by rw [ht]; exact hP, va_K.moved hW.alike hK, hD⟩, hS.F ht⟩) hS.2.2 dX3_advance_21
set_option maxHeartbeats 4000000 in
set_option maxRecDepth 100000 in
theorem c_X3_bills (l : Launch) (D : va_G) (cI cZ : ClassId) (a : Nat → Nat) (sz : Nat) (B : Nat → Nat → Int32) (R : Nat → Nat → Int32) (E : Nat → Nat → Int32) (td : Int32) : Met l yX3_bills wsX3_bills ({ frames := 0, cells := 0, slots := 0, locals := 0 } : Room) (va_Pc [.ref (a 0)] (PreW D cI cZ (wCA a cI cZ B R E (td)) sz)) (va_Qi (fun (r : Int32) (u : Unit) => r = B 11 0) (fun (u : Unit) => PostW D cI cZ (va_A (wCA a cI cZ B R E (td)) sz) (wCA a cI cZ B R E (td))) (va_A (wCA a cI cZ B R E (td)) sz)) 0 0 (va_A (wCA a cI cZ B R E (td)) sz) := by
  refine Met.ofW (cc := cX3_bills) (maxL := 1) (ret := (some .int)) (by decide) rfl ?_
  intro p e s m args below meth c s₁ BB hml hv
  obtain ⟨rfl, hsz, hP, hK, hD0⟩ := hv
  have hx := BB.exec
  have hb := BB.bytes
  have hr := BB.returns
  have hts := atoms_spec (ws := wsX3_bills) BB.pre
  have hown : s.vm.findClass RX3 = some m.cls := findClass_of_methodNamed BB.named
  have hlocks := BB.notSynchronized
  clear BB
  subst hsz
  have hD := hD0.self (sz := s.heap.size)
  clear hD0
  generalize hAe : va_A (wCA a cI cZ B R E (td)) s.heap.size = A at hD ⊢
  have hA : ∀ q : Nat, s.heap.size ≤ q → A q := fun q h => by rw [← hAe]; exact Or.inr h
  clear hAe
  have hS : va_S A s.heap s.heap [] := va_S.rf
  have hl := lv_entry ([.ref (a 0)]) (n := 1) (Nat.le_of_ble_eq_true rfl)
  rw [lg_entry_eq]
  generalize (lg_sl ([.ref (a 0)]) ++ List.replicate (1 - (lg_sl ([.ref (a 0)])).length) Slot.unset).toArray = ls at hl ⊢
  have hl : lv_has ls 1 [(0, .ref (a 0))] := hl
  generalize hHe : s.heap = H at hP
  have hS : va_S A s.heap H [] := by rw [← hHe]; exact va_S.rf
  clear hHe
  generalize hLe : ([] : List Loc) = locs at hS ⊢
  clear hLe
  refine lv_aload_n hx hb dX3_bills_0 rfl (lv_at hl 0 rfl) ?_
  refine va_get (D := D) (ci := 3) (v := .ref (a 1)) (C := RX3) (T := TX3) (N := 4) hx hb hts (fun w h => List.mem_cons_of_mem _ (List.mem_append_left _ (List.mem_append_right _ h))) hown hK hP 0 rfl rfl 0 (by decide) (hts (.fieldLink RX3 10 "CashAllocator" "billBook" "LCashAllocator$BillBook;") (by decide +kernel)) (fun _ h9 => h9) rfl dX3_bills_1 ?_
  refine va_get (D := D) (ci := 0) (v := .int (B 11 (0))) (C := RX0) (T := TX0) (N := 12) hx hb hts (fun w h => List.mem_cons_of_mem _ (List.mem_append_right _ h)) hown hK hP 1 rfl rfl 11 (by decide) (hts (.fieldLink RX3 43 "CashAllocator$BillBook" "count" "I") (by decide +kernel)) (fun _ h9 => h9) rfl dX3_bills_4 ?_
  exact W.iret (v := B 11 (0)) hx hb hr (fun t ht hW => ⟨⟨B 11 (0), (), rfl, rfl, by rw [ht]; exact hP, va_K.moved hW.alike hK, hD⟩, hS.F ht⟩) hS.2.2 dX3_bills_7
set_option maxHeartbeats 4000000 in
set_option maxRecDepth 100000 in
theorem c_X3_receipts (l : Launch) (D : va_G) (cI cZ : ClassId) (a : Nat → Nat) (sz : Nat) (B : Nat → Nat → Int32) (R : Nat → Nat → Int32) (E : Nat → Nat → Int32) (td : Int32) : Met l yX3_receipts wsX3_receipts ({ frames := 0, cells := 0, slots := 0, locals := 0 } : Room) (va_Pc [.ref (a 0)] (PreW D cI cZ (wCA a cI cZ B R E (td)) sz)) (va_Qi (fun (r : Int32) (u : Unit) => r = R 8 0) (fun (u : Unit) => PostW D cI cZ (va_A (wCA a cI cZ B R E (td)) sz) (wCA a cI cZ B R E (td))) (va_A (wCA a cI cZ B R E (td)) sz)) 0 0 (va_A (wCA a cI cZ B R E (td)) sz) := by
  refine Met.ofW (cc := cX3_receipts) (maxL := 1) (ret := (some .int)) (by decide) rfl ?_
  intro p e s m args below meth c s₁ BB hml hv
  obtain ⟨rfl, hsz, hP, hK, hD0⟩ := hv
  have hx := BB.exec
  have hb := BB.bytes
  have hr := BB.returns
  have hts := atoms_spec (ws := wsX3_receipts) BB.pre
  have hown : s.vm.findClass RX3 = some m.cls := findClass_of_methodNamed BB.named
  have hlocks := BB.notSynchronized
  clear BB
  subst hsz
  have hD := hD0.self (sz := s.heap.size)
  clear hD0
  generalize hAe : va_A (wCA a cI cZ B R E (td)) s.heap.size = A at hD ⊢
  have hA : ∀ q : Nat, s.heap.size ≤ q → A q := fun q h => by rw [← hAe]; exact Or.inr h
  clear hAe
  have hS : va_S A s.heap s.heap [] := va_S.rf
  have hl := lv_entry ([.ref (a 0)]) (n := 1) (Nat.le_of_ble_eq_true rfl)
  rw [lg_entry_eq]
  generalize (lg_sl ([.ref (a 0)]) ++ List.replicate (1 - (lg_sl ([.ref (a 0)])).length) Slot.unset).toArray = ls at hl ⊢
  have hl : lv_has ls 1 [(0, .ref (a 0))] := hl
  generalize hHe : s.heap = H at hP
  have hS : va_S A s.heap H [] := by rw [← hHe]; exact va_S.rf
  clear hHe
  generalize hLe : ([] : List Loc) = locs at hS ⊢
  clear hLe
  refine lv_aload_n hx hb dX3_receipts_0 rfl (lv_at hl 0 rfl) ?_
  refine va_get (D := D) (ci := 3) (v := .ref (a 13)) (C := RX3) (T := TX3) (N := 4) hx hb hts (fun w h => List.mem_cons_of_mem _ (List.mem_append_left _ (List.mem_append_right _ h))) hown hK hP 0 rfl rfl 1 (by decide) (hts (.fieldLink RX3 19 "CashAllocator" "receiptBook" "LCashAllocator$ReceiptBook;") (by decide +kernel)) (fun _ h9 => h9) rfl dX3_receipts_1 ?_
  refine va_get (D := D) (ci := 2) (v := .int (R 8 (0))) (C := RX2) (T := TX2) (N := 9) hx hb hts (fun w h => List.mem_cons_of_mem _ (List.mem_append_right _ h)) hown hK hP 13 rfl rfl 8 (by decide) (hts (.fieldLink RX3 61 "CashAllocator$ReceiptBook" "count" "I") (by decide +kernel)) (fun _ h9 => h9) rfl dX3_receipts_4 ?_
  exact W.iret (v := R 8 (0)) hx hb hr (fun t ht hW => ⟨⟨R 8 (0), (), rfl, rfl, by rw [ht]; exact hP, va_K.moved hW.alike hK, hD⟩, hS.F ht⟩) hS.2.2 dX3_receipts_7
set_option maxHeartbeats 4000000 in
set_option maxRecDepth 100000 in
theorem c_X3_day (l : Launch) (D : va_G) (cI cZ : ClassId) (a : Nat → Nat) (sz : Nat) (B : Nat → Nat → Int32) (R : Nat → Nat → Int32) (E : Nat → Nat → Int32) (td : Int32) : Met l yX3_day wsX3_day ({ frames := 0, cells := 0, slots := 0, locals := 0 } : Room) (va_Pc [.ref (a 0)] (PreW D cI cZ (wCA a cI cZ B R E (td)) sz)) (va_Qi (fun (r : Int32) (u : Unit) => r = td) (fun (u : Unit) => PostW D cI cZ (va_A (wCA a cI cZ B R E (td)) sz) (wCA a cI cZ B R E (td))) (va_A (wCA a cI cZ B R E (td)) sz)) 0 0 (va_A (wCA a cI cZ B R E (td)) sz) := by
  refine Met.ofW (cc := cX3_day) (maxL := 1) (ret := (some .int)) (by decide) rfl ?_
  intro p e s m args below meth c s₁ BB hml hv
  obtain ⟨rfl, hsz, hP, hK, hD0⟩ := hv
  have hx := BB.exec
  have hb := BB.bytes
  have hr := BB.returns
  have hts := atoms_spec (ws := wsX3_day) BB.pre
  have hown : s.vm.findClass RX3 = some m.cls := findClass_of_methodNamed BB.named
  have hlocks := BB.notSynchronized
  clear BB
  subst hsz
  have hD := hD0.self (sz := s.heap.size)
  clear hD0
  generalize hAe : va_A (wCA a cI cZ B R E (td)) s.heap.size = A at hD ⊢
  have hA : ∀ q : Nat, s.heap.size ≤ q → A q := fun q h => by rw [← hAe]; exact Or.inr h
  clear hAe
  have hS : va_S A s.heap s.heap [] := va_S.rf
  have hl := lv_entry ([.ref (a 0)]) (n := 1) (Nat.le_of_ble_eq_true rfl)
  rw [lg_entry_eq]
  generalize (lg_sl ([.ref (a 0)]) ++ List.replicate (1 - (lg_sl ([.ref (a 0)])).length) Slot.unset).toArray = ls at hl ⊢
  have hl : lv_has ls 1 [(0, .ref (a 0))] := hl
  generalize hHe : s.heap = H at hP
  have hS : va_S A s.heap H [] := by rw [← hHe]; exact va_S.rf
  clear hHe
  generalize hLe : ([] : List Loc) = locs at hS ⊢
  clear hLe
  refine lv_aload_n hx hb dX3_day_0 rfl (lv_at hl 0 rfl) ?_
  refine va_get (D := D) (ci := 3) (v := .int (td)) (C := RX3) (T := TX3) (N := 4) hx hb hts (fun w h => List.mem_cons_of_mem _ (List.mem_append_right _ h)) hown hK hP 0 rfl rfl 3 (by decide) (hts (.fieldLink RX3 30 "CashAllocator" "today" "I") (by decide +kernel)) (fun _ h9 => h9) rfl dX3_day_1 ?_
  exact W.iret (v := td) hx hb hr (fun t ht hW => ⟨⟨td, (), rfl, rfl, by rw [ht]; exact hP, va_K.moved hW.alike hK, hD⟩, hS.F ht⟩) hS.2.2 dX3_day_4
set_option maxHeartbeats 4000000 in
set_option maxRecDepth 100000 in
theorem c_X3_open (l : Launch) (D : va_G) (cI cZ : ClassId) (a : Nat → Nat) (sz : Nat) (B : Nat → Nat → Int32) (R : Nat → Nat → Int32) (E : Nat → Nat → Int32) (td : Int32) (n : Nat) (i : Nat) (hB : B 11 0 = nI n) (hn : n ≤ 40) (hbn : i < n) : Met l yX3_open wsX3_open ({ frames := 1, cells := 0, slots := 0, locals := 21 } : Room) (va_Pc [.ref (a 0), .int (nI (i))] (PreW D cI cZ (wCA a cI cZ B R E (td)) sz)) (va_Qi (fun (r : Int32) (u : Unit) => r = opn B i) (fun (u : Unit) => PostW D cI cZ (va_A (wCA a cI cZ B R E (td)) sz) (wCA a cI cZ B R E (td))) (va_A (wCA a cI cZ B R E (td)) sz)) 0 0 (va_A (wCA a cI cZ B R E (td)) sz) := by
  refine Met.ofW (cc := cX3_open) (maxL := 2) (ret := (some .int)) (by decide) rfl ?_
  intro p e s m args below meth c s₁ BB hml hv
  obtain ⟨rfl, hsz, hP, hK, hD0⟩ := hv
  have hx := BB.exec
  have hb := BB.bytes
  have hr := BB.returns
  have hts := atoms_spec (ws := wsX3_open) BB.pre
  have hown : s.vm.findClass RX3 = some m.cls := findClass_of_methodNamed BB.named
  have hlocks := BB.notSynchronized
  clear BB
  subst hsz
  have hD := hD0.self (sz := s.heap.size)
  clear hD0
  generalize hAe : va_A (wCA a cI cZ B R E (td)) s.heap.size = A at hD ⊢
  have hA : ∀ q : Nat, s.heap.size ≤ q → A q := fun q h => by rw [← hAe]; exact Or.inr h
  clear hAe
  have hS : va_S A s.heap s.heap [] := va_S.rf
  have hl := lv_entry ([.ref (a 0), .int (nI (i))]) (n := 2) (Nat.le_of_ble_eq_true rfl)
  rw [lg_entry_eq]
  generalize (lg_sl ([.ref (a 0), .int (nI (i))]) ++ List.replicate (2 - (lg_sl ([.ref (a 0), .int (nI (i))])).length) Slot.unset).toArray = ls at hl ⊢
  have hl : lv_has ls 2 [(0, .ref (a 0)), (1, .int (nI (i)))] := hl
  generalize hHe : s.heap = H at hP
  have hS : va_S A s.heap H [] := by rw [← hHe]; exact va_S.rf
  clear hHe
  generalize hLe : ([] : List Loc) = locs at hS ⊢
  clear hLe
  refine lv_aload_n hx hb dX3_open_0 rfl (lv_at hl 0 rfl) ?_
  refine lv_iload_n hx hb dX3_open_1 rfl (lv_at hl 1 rfl) ?_
  refine zcVv (ci := 3) (q0 := 0) (wf := (fun (u : Unit) => (wCA a cI cZ B R E (td)))) (List.range 26) ⟨hx, hb, hml, hown, hts⟩ (zwAll 26 (by decide) rfl hP hD hS hA) hK (c_X3_requireBill l D cI cZ a H.size (B) (R) (E) (td) (nI (i)) (nI_pos (by omega)) (by rw [hB]; exact (nI_ltI (by omega) (by omega)).mpr hbn)) (cwV 1 hts gX3_open_X3_requireBill rfl rfl rfl (by decide +kernel) ⟨Nat.le_of_ble_eq_true rfl, Nat.le_of_ble_eq_true rfl⟩) rfl rfl (by decide) (fun _ => rfl) rfl hl.1 rfl (Nat.le_of_ble_eq_true rfl) dX3_open_2 ⟨Nat.le_of_ble_eq_true rfl, Nat.le_of_ble_eq_true rfl⟩ (fun u H locs hw hP hD hS => ?_)
  refine lv_aload_n hx hb dX3_open_5 rfl (lv_at hl 0 rfl) ?_
  refine va_get (D := D) (ci := 3) (v := .ref (a 1)) (C := RX3) (T := TX3) (N := 4) hx hb hts (fun w h => List.mem_cons_of_mem _ (List.mem_append_left _ (List.mem_append_left _ (List.mem_append_right _ h)))) hown hK hP 0 rfl rfl 0 (by decide) (hts (.fieldLink RX3 10 "CashAllocator" "billBook" "LCashAllocator$BillBook;") (by decide +kernel)) (fun _ h9 => h9) rfl dX3_open_6 ?_
  refine lv_iload_n hx hb dX3_open_9 rfl (lv_at hl 1 rfl) ?_
  refine zcVi (ci := 0) (q0 := 0) (wf := (fun (u : Unit) => (wCA a cI cZ B R E (td)))) ksBB ⟨hx, hb, hml, hown, hts⟩ (zwBB hP hD hS hA) hK (c_X0_openSum l D cI cZ a H.size (B) (i) (by first | assumption | omega)) (cwV 1 hts gX3_open_X0_openSum rfl rfl rfl (by decide +kernel) ⟨Nat.le_of_ble_eq_true rfl, Nat.le_of_ble_eq_true rfl⟩) rfl rfl (by decide) (fun _ => zkBB _) rfl hl.1 rfl (Nat.le_of_ble_eq_true rfl) dX3_open_10 ⟨Nat.le_of_ble_eq_true rfl, Nat.le_of_ble_eq_true rfl⟩ (fun r10 u H locs hw hP hD hS => ?_)
  subst hw
  exact W.iret (v := opn (B) (i)) hx hb hr (fun t ht hW => ⟨⟨opn (B) (i), (), rfl, rfl, by rw [ht]; exact hP, va_K.moved hW.alike hK, hD⟩, hS.F ht⟩) hS.2.2 dX3_open_13
set_option maxHeartbeats 4000000 in
set_option maxRecDepth 100000 in
theorem c_X3_due (l : Launch) (D : va_G) (cI cZ : ClassId) (a : Nat → Nat) (sz : Nat) (B : Nat → Nat → Int32) (R : Nat → Nat → Int32) (E : Nat → Nat → Int32) (td : Int32) (n : Nat) (i : Nat) (hB : B 11 0 = nI n) (hn : n ≤ 40) (hbn : i < n) : Met l yX3_due wsX3_due ({ frames := 3, cells := 0, slots := 0, locals := 66 } : Room) (va_Pc [.ref (a 0), .int (nI (i))] (PreW D cI cZ (wCA a cI cZ B R E (td)) sz)) (va_Qi (fun (r : Int32) (u : Unit) => r = dueN B i td) (fun (u : Unit) => PostW D cI cZ (va_A (wCA a cI cZ B R E (td)) sz) (wCA a cI cZ B R E (td))) (va_A (wCA a cI cZ B R E (td)) sz)) 0 0 (va_A (wCA a cI cZ B R E (td)) sz) := by
  refine Met.ofW (cc := cX3_due) (maxL := 2) (ret := (some .int)) (by decide) rfl ?_
  intro p e s m args below meth c s₁ BB hml hv
  obtain ⟨rfl, hsz, hP, hK, hD0⟩ := hv
  have hx := BB.exec
  have hb := BB.bytes
  have hr := BB.returns
  have hts := atoms_spec (ws := wsX3_due) BB.pre
  have hown : s.vm.findClass RX3 = some m.cls := findClass_of_methodNamed BB.named
  have hlocks := BB.notSynchronized
  clear BB
  subst hsz
  have hD := hD0.self (sz := s.heap.size)
  clear hD0
  generalize hAe : va_A (wCA a cI cZ B R E (td)) s.heap.size = A at hD ⊢
  have hA : ∀ q : Nat, s.heap.size ≤ q → A q := fun q h => by rw [← hAe]; exact Or.inr h
  clear hAe
  have hS : va_S A s.heap s.heap [] := va_S.rf
  have hl := lv_entry ([.ref (a 0), .int (nI (i))]) (n := 2) (Nat.le_of_ble_eq_true rfl)
  rw [lg_entry_eq]
  generalize (lg_sl ([.ref (a 0), .int (nI (i))]) ++ List.replicate (2 - (lg_sl ([.ref (a 0), .int (nI (i))])).length) Slot.unset).toArray = ls at hl ⊢
  have hl : lv_has ls 2 [(0, .ref (a 0)), (1, .int (nI (i)))] := hl
  generalize hHe : s.heap = H at hP
  have hS : va_S A s.heap H [] := by rw [← hHe]; exact va_S.rf
  clear hHe
  generalize hLe : ([] : List Loc) = locs at hS ⊢
  clear hLe
  refine lv_aload_n hx hb dX3_due_0 rfl (lv_at hl 0 rfl) ?_
  refine lv_iload_n hx hb dX3_due_1 rfl (lv_at hl 1 rfl) ?_
  refine zcVv (ci := 3) (q0 := 0) (wf := (fun (u : Unit) => (wCA a cI cZ B R E (td)))) (List.range 26) ⟨hx, hb, hml, hown, hts⟩ (zwAll 26 (by decide) rfl hP hD hS hA) hK (c_X3_requireBill l D cI cZ a H.size (B) (R) (E) (td) (nI (i)) (nI_pos (by omega)) (by rw [hB]; exact (nI_ltI (by omega) (by omega)).mpr hbn)) (cwV 1 hts gX3_due_X3_requireBill rfl rfl rfl (by decide +kernel) ⟨Nat.le_of_ble_eq_true rfl, Nat.le_of_ble_eq_true rfl⟩) rfl rfl (by decide) (fun _ => rfl) rfl hl.1 rfl (Nat.le_of_ble_eq_true rfl) dX3_due_2 ⟨Nat.le_of_ble_eq_true rfl, Nat.le_of_ble_eq_true rfl⟩ (fun u H locs hw hP hD hS => ?_)
  refine lv_aload_n hx hb dX3_due_5 rfl (lv_at hl 0 rfl) ?_
  refine va_get (D := D) (ci := 3) (v := .ref (a 1)) (C := RX3) (T := TX3) (N := 4) hx hb hts (fun w h => List.mem_cons_of_mem _ (List.mem_append_left _ (List.mem_append_left _ (List.mem_append_right _ h)))) hown hK hP 0 rfl rfl 0 (by decide) (hts (.fieldLink RX3 10 "CashAllocator" "billBook" "LCashAllocator$BillBook;") (by decide +kernel)) (fun _ h9 => h9) rfl dX3_due_6 ?_
  refine lv_iload_n hx hb dX3_due_9 rfl (lv_at hl 1 rfl) ?_
  refine lv_aload_n hx hb dX3_due_10 rfl (lv_at hl 0 rfl) ?_
  refine va_get (D := D) (ci := 3) (v := .int (td)) (C := RX3) (T := TX3) (N := 4) hx hb hts (fun w h => List.mem_cons_of_mem _ (List.mem_append_left _ (List.mem_append_left _ (List.mem_append_right _ h)))) hown hK hP 0 rfl rfl 3 (by decide) (hts (.fieldLink RX3 30 "CashAllocator" "today" "I") (by decide +kernel)) (fun _ h9 => h9) rfl dX3_due_11 ?_
  refine zcVi (ci := 0) (q0 := 0) (wf := (fun (u : Unit) => (wCA a cI cZ B R E (td)))) ksBB ⟨hx, hb, hml, hown, hts⟩ (zwBB hP hD hS hA) hK (c_X0_dueOn l D cI cZ a H.size (B) (i) (td) (by first | assumption | omega)) (cwV 2 hts gX3_due_X0_dueOn rfl rfl rfl (by decide +kernel) ⟨Nat.le_of_ble_eq_true rfl, Nat.le_of_ble_eq_true rfl⟩) rfl rfl (by decide) (fun _ => zkBB _) rfl hl.1 rfl (Nat.le_of_ble_eq_true rfl) dX3_due_14 ⟨Nat.le_of_ble_eq_true rfl, Nat.le_of_ble_eq_true rfl⟩ (fun r14 u H locs hw hP hD hS => ?_)
  subst hw
  exact W.iret (v := dueN (B) (i) (td)) hx hb hr (fun t ht hW => ⟨⟨dueN (B) (i) (td), (), rfl, rfl, by rw [ht]; exact hP, va_K.moved hW.alike hK, hD⟩, hS.F ht⟩) hS.2.2 dX3_due_17
set_option maxHeartbeats 4000000 in
set_option maxRecDepth 100000 in
theorem c_X3_paid (l : Launch) (D : va_G) (cI cZ : ClassId) (a : Nat → Nat) (sz : Nat) (B : Nat → Nat → Int32) (R : Nat → Nat → Int32) (E : Nat → Nat → Int32) (td : Int32) (n : Nat) (i : Nat) (hB : B 11 0 = nI n) (hn : n ≤ 40) (hbn : i < n) : Met l yX3_paid wsX3_paid ({ frames := 1, cells := 0, slots := 0, locals := 21 } : Room) (va_Pc [.ref (a 0), .int (nI (i))] (PreW D cI cZ (wCA a cI cZ B R E (td)) sz)) (va_Qi (fun (r : Int32) (u : Unit) => r = B 5 i) (fun (u : Unit) => PostW D cI cZ (va_A (wCA a cI cZ B R E (td)) sz) (wCA a cI cZ B R E (td))) (va_A (wCA a cI cZ B R E (td)) sz)) 0 0 (va_A (wCA a cI cZ B R E (td)) sz) := by
  refine Met.ofW (cc := cX3_paid) (maxL := 2) (ret := (some .int)) (by decide) rfl ?_
  intro p e s m args below meth c s₁ BB hml hv
  obtain ⟨rfl, hsz, hP, hK, hD0⟩ := hv
  have hx := BB.exec
  have hb := BB.bytes
  have hr := BB.returns
  have hts := atoms_spec (ws := wsX3_paid) BB.pre
  have hown : s.vm.findClass RX3 = some m.cls := findClass_of_methodNamed BB.named
  have hlocks := BB.notSynchronized
  clear BB
  subst hsz
  have hD := hD0.self (sz := s.heap.size)
  clear hD0
  generalize hAe : va_A (wCA a cI cZ B R E (td)) s.heap.size = A at hD ⊢
  have hA : ∀ q : Nat, s.heap.size ≤ q → A q := fun q h => by rw [← hAe]; exact Or.inr h
  clear hAe
  have hS : va_S A s.heap s.heap [] := va_S.rf
  have hl := lv_entry ([.ref (a 0), .int (nI (i))]) (n := 2) (Nat.le_of_ble_eq_true rfl)
  rw [lg_entry_eq]
  generalize (lg_sl ([.ref (a 0), .int (nI (i))]) ++ List.replicate (2 - (lg_sl ([.ref (a 0), .int (nI (i))])).length) Slot.unset).toArray = ls at hl ⊢
  have hl : lv_has ls 2 [(0, .ref (a 0)), (1, .int (nI (i)))] := hl
  generalize hHe : s.heap = H at hP
  have hS : va_S A s.heap H [] := by rw [← hHe]; exact va_S.rf
  clear hHe
  generalize hLe : ([] : List Loc) = locs at hS ⊢
  clear hLe
  refine lv_aload_n hx hb dX3_paid_0 rfl (lv_at hl 0 rfl) ?_
  refine lv_iload_n hx hb dX3_paid_1 rfl (lv_at hl 1 rfl) ?_
  refine zcVv (ci := 3) (q0 := 0) (wf := (fun (u : Unit) => (wCA a cI cZ B R E (td)))) (List.range 26) ⟨hx, hb, hml, hown, hts⟩ (zwAll 26 (by decide) rfl hP hD hS hA) hK (c_X3_requireBill l D cI cZ a H.size (B) (R) (E) (td) (nI (i)) (nI_pos (by omega)) (by rw [hB]; exact (nI_ltI (by omega) (by omega)).mpr hbn)) (cwV 1 hts gX3_paid_X3_requireBill rfl rfl rfl (by decide +kernel) ⟨Nat.le_of_ble_eq_true rfl, Nat.le_of_ble_eq_true rfl⟩) rfl rfl (by decide) (fun _ => rfl) rfl hl.1 rfl (Nat.le_of_ble_eq_true rfl) dX3_paid_2 ⟨Nat.le_of_ble_eq_true rfl, Nat.le_of_ble_eq_true rfl⟩ (fun u H locs hw hP hD hS => ?_)
  refine lv_aload_n hx hb dX3_paid_5 rfl (lv_at hl 0 rfl) ?_
  refine va_get (D := D) (ci := 3) (v := .ref (a 1)) (C := RX3) (T := TX3) (N := 4) hx hb hts (fun w h => List.mem_cons_of_mem _ (List.mem_append_left _ (List.mem_append_left _ (List.mem_append_right _ h)))) hown hK hP 0 rfl rfl 0 (by decide) (hts (.fieldLink RX3 10 "CashAllocator" "billBook" "LCashAllocator$BillBook;") (by decide +kernel)) (fun _ h9 => h9) rfl dX3_paid_6 ?_
  refine va_get (D := D) (ci := 0) (v := .ref (a 7)) (C := RX0) (T := TX0) (N := 12) hx hb hts (fun w h => List.mem_cons_of_mem _ (List.mem_append_left _ (List.mem_append_right _ h))) hown hK hP 1 rfl rfl 5 (by decide) (hts (.fieldLink RX3 135 "CashAllocator$BillBook" "paid" "[I") (by decide +kernel)) (fun _ h9 => h9) rfl dX3_paid_9 ?_
  refine lv_iload_n hx hb dX3_paid_12 rfl (lv_at hl 1 rfl) ?_
  refine zald hx hb hK hP 7 (n := 40) (f := (B 5)) rfl (i) rfl (by omega) (by decide) dX3_paid_13 ?_
  exact W.iret (v := B 5 (i)) hx hb hr (fun t ht hW => ⟨⟨B 5 (i), (), rfl, rfl, by rw [ht]; exact hP, va_K.moved hW.alike hK, hD⟩, hS.F ht⟩) hS.2.2 dX3_paid_14
set_option maxHeartbeats 4000000 in
set_option maxRecDepth 100000 in
theorem c_X3_taken (l : Launch) (D : va_G) (cI cZ : ClassId) (a : Nat → Nat) (sz : Nat) (B : Nat → Nat → Int32) (R : Nat → Nat → Int32) (E : Nat → Nat → Int32) (td : Int32) (n : Nat) (i : Nat) (hB : B 11 0 = nI n) (hn : n ≤ 40) (hbn : i < n) : Met l yX3_taken wsX3_taken ({ frames := 1, cells := 0, slots := 0, locals := 21 } : Room) (va_Pc [.ref (a 0), .int (nI (i))] (PreW D cI cZ (wCA a cI cZ B R E (td)) sz)) (va_Qi (fun (r : Int32) (u : Unit) => r = B 6 i) (fun (u : Unit) => PostW D cI cZ (va_A (wCA a cI cZ B R E (td)) sz) (wCA a cI cZ B R E (td))) (va_A (wCA a cI cZ B R E (td)) sz)) 0 0 (va_A (wCA a cI cZ B R E (td)) sz) := by
  refine Met.ofW (cc := cX3_taken) (maxL := 2) (ret := (some .int)) (by decide) rfl ?_
  intro p e s m args below meth c s₁ BB hml hv
  obtain ⟨rfl, hsz, hP, hK, hD0⟩ := hv
  have hx := BB.exec
  have hb := BB.bytes
  have hr := BB.returns
  have hts := atoms_spec (ws := wsX3_taken) BB.pre
  have hown : s.vm.findClass RX3 = some m.cls := findClass_of_methodNamed BB.named
  have hlocks := BB.notSynchronized
  clear BB
  subst hsz
  have hD := hD0.self (sz := s.heap.size)
  clear hD0
  generalize hAe : va_A (wCA a cI cZ B R E (td)) s.heap.size = A at hD ⊢
  have hA : ∀ q : Nat, s.heap.size ≤ q → A q := fun q h => by rw [← hAe]; exact Or.inr h
  clear hAe
  have hS : va_S A s.heap s.heap [] := va_S.rf
  have hl := lv_entry ([.ref (a 0), .int (nI (i))]) (n := 2) (Nat.le_of_ble_eq_true rfl)
  rw [lg_entry_eq]
  generalize (lg_sl ([.ref (a 0), .int (nI (i))]) ++ List.replicate (2 - (lg_sl ([.ref (a 0), .int (nI (i))])).length) Slot.unset).toArray = ls at hl ⊢
  have hl : lv_has ls 2 [(0, .ref (a 0)), (1, .int (nI (i)))] := hl
  generalize hHe : s.heap = H at hP
  have hS : va_S A s.heap H [] := by rw [← hHe]; exact va_S.rf
  clear hHe
  generalize hLe : ([] : List Loc) = locs at hS ⊢
  clear hLe
  refine lv_aload_n hx hb dX3_taken_0 rfl (lv_at hl 0 rfl) ?_
  refine lv_iload_n hx hb dX3_taken_1 rfl (lv_at hl 1 rfl) ?_
  refine zcVv (ci := 3) (q0 := 0) (wf := (fun (u : Unit) => (wCA a cI cZ B R E (td)))) (List.range 26) ⟨hx, hb, hml, hown, hts⟩ (zwAll 26 (by decide) rfl hP hD hS hA) hK (c_X3_requireBill l D cI cZ a H.size (B) (R) (E) (td) (nI (i)) (nI_pos (by omega)) (by rw [hB]; exact (nI_ltI (by omega) (by omega)).mpr hbn)) (cwV 1 hts gX3_taken_X3_requireBill rfl rfl rfl (by decide +kernel) ⟨Nat.le_of_ble_eq_true rfl, Nat.le_of_ble_eq_true rfl⟩) rfl rfl (by decide) (fun _ => rfl) rfl hl.1 rfl (Nat.le_of_ble_eq_true rfl) dX3_taken_2 ⟨Nat.le_of_ble_eq_true rfl, Nat.le_of_ble_eq_true rfl⟩ (fun u H locs hw hP hD hS => ?_)
  refine lv_aload_n hx hb dX3_taken_5 rfl (lv_at hl 0 rfl) ?_
  refine va_get (D := D) (ci := 3) (v := .ref (a 1)) (C := RX3) (T := TX3) (N := 4) hx hb hts (fun w h => List.mem_cons_of_mem _ (List.mem_append_left _ (List.mem_append_left _ (List.mem_append_right _ h)))) hown hK hP 0 rfl rfl 0 (by decide) (hts (.fieldLink RX3 10 "CashAllocator" "billBook" "LCashAllocator$BillBook;") (by decide +kernel)) (fun _ h9 => h9) rfl dX3_taken_6 ?_
  refine va_get (D := D) (ci := 0) (v := .ref (a 8)) (C := RX0) (T := TX0) (N := 12) hx hb hts (fun w h => List.mem_cons_of_mem _ (List.mem_append_left _ (List.mem_append_right _ h))) hown hK hP 1 rfl rfl 6 (by decide) (hts (.fieldLink RX3 138 "CashAllocator$BillBook" "taken" "[I") (by decide +kernel)) (fun _ h9 => h9) rfl dX3_taken_9 ?_
  refine lv_iload_n hx hb dX3_taken_12 rfl (lv_at hl 1 rfl) ?_
  refine zald hx hb hK hP 8 (n := 40) (f := (B 6)) rfl (i) rfl (by omega) (by decide) dX3_taken_13 ?_
  exact W.iret (v := B 6 (i)) hx hb hr (fun t ht hW => ⟨⟨B 6 (i), (), rfl, rfl, by rw [ht]; exact hP, va_K.moved hW.alike hK, hD⟩, hS.F ht⟩) hS.2.2 dX3_taken_14
set_option maxHeartbeats 4000000 in
set_option maxRecDepth 100000 in
theorem c_X3_disputed (l : Launch) (D : va_G) (cI cZ : ClassId) (a : Nat → Nat) (sz : Nat) (B : Nat → Nat → Int32) (R : Nat → Nat → Int32) (E : Nat → Nat → Int32) (td : Int32) (n : Nat) (i : Nat) (hB : B 11 0 = nI n) (hn : n ≤ 40) (hbn : i < n) : Met l yX3_disputed wsX3_disputed ({ frames := 1, cells := 0, slots := 0, locals := 21 } : Room) (va_Pc [.ref (a 0), .int (nI (i))] (PreW D cI cZ (wCA a cI cZ B R E (td)) sz)) (va_Qi (fun (r : Int32) (u : Unit) => r = B 8 i) (fun (u : Unit) => PostW D cI cZ (va_A (wCA a cI cZ B R E (td)) sz) (wCA a cI cZ B R E (td))) (va_A (wCA a cI cZ B R E (td)) sz)) 0 0 (va_A (wCA a cI cZ B R E (td)) sz) := by
  refine Met.ofW (cc := cX3_disputed) (maxL := 2) (ret := (some .int)) (by decide) rfl ?_
  intro p e s m args below meth c s₁ BB hml hv
  obtain ⟨rfl, hsz, hP, hK, hD0⟩ := hv
  have hx := BB.exec
  have hb := BB.bytes
  have hr := BB.returns
  have hts := atoms_spec (ws := wsX3_disputed) BB.pre
  have hown : s.vm.findClass RX3 = some m.cls := findClass_of_methodNamed BB.named
  have hlocks := BB.notSynchronized
  clear BB
  subst hsz
  have hD := hD0.self (sz := s.heap.size)
  clear hD0
  generalize hAe : va_A (wCA a cI cZ B R E (td)) s.heap.size = A at hD ⊢
  have hA : ∀ q : Nat, s.heap.size ≤ q → A q := fun q h => by rw [← hAe]; exact Or.inr h
  clear hAe
  have hS : va_S A s.heap s.heap [] := va_S.rf
  have hl := lv_entry ([.ref (a 0), .int (nI (i))]) (n := 2) (Nat.le_of_ble_eq_true rfl)
  rw [lg_entry_eq]
  generalize (lg_sl ([.ref (a 0), .int (nI (i))]) ++ List.replicate (2 - (lg_sl ([.ref (a 0), .int (nI (i))])).length) Slot.unset).toArray = ls at hl ⊢
  have hl : lv_has ls 2 [(0, .ref (a 0)), (1, .int (nI (i)))] := hl
  generalize hHe : s.heap = H at hP
  have hS : va_S A s.heap H [] := by rw [← hHe]; exact va_S.rf
  clear hHe
  generalize hLe : ([] : List Loc) = locs at hS ⊢
  clear hLe
  refine lv_aload_n hx hb dX3_disputed_0 rfl (lv_at hl 0 rfl) ?_
  refine lv_iload_n hx hb dX3_disputed_1 rfl (lv_at hl 1 rfl) ?_
  refine zcVv (ci := 3) (q0 := 0) (wf := (fun (u : Unit) => (wCA a cI cZ B R E (td)))) (List.range 26) ⟨hx, hb, hml, hown, hts⟩ (zwAll 26 (by decide) rfl hP hD hS hA) hK (c_X3_requireBill l D cI cZ a H.size (B) (R) (E) (td) (nI (i)) (nI_pos (by omega)) (by rw [hB]; exact (nI_ltI (by omega) (by omega)).mpr hbn)) (cwV 1 hts gX3_disputed_X3_requireBill rfl rfl rfl (by decide +kernel) ⟨Nat.le_of_ble_eq_true rfl, Nat.le_of_ble_eq_true rfl⟩) rfl rfl (by decide) (fun _ => rfl) rfl hl.1 rfl (Nat.le_of_ble_eq_true rfl) dX3_disputed_2 ⟨Nat.le_of_ble_eq_true rfl, Nat.le_of_ble_eq_true rfl⟩ (fun u H locs hw hP hD hS => ?_)
  refine lv_aload_n hx hb dX3_disputed_5 rfl (lv_at hl 0 rfl) ?_
  refine va_get (D := D) (ci := 3) (v := .ref (a 1)) (C := RX3) (T := TX3) (N := 4) hx hb hts (fun w h => List.mem_cons_of_mem _ (List.mem_append_left _ (List.mem_append_left _ (List.mem_append_right _ h)))) hown hK hP 0 rfl rfl 0 (by decide) (hts (.fieldLink RX3 10 "CashAllocator" "billBook" "LCashAllocator$BillBook;") (by decide +kernel)) (fun _ h9 => h9) rfl dX3_disputed_6 ?_
  refine va_get (D := D) (ci := 0) (v := .ref (a 10)) (C := RX0) (T := TX0) (N := 12) hx hb hts (fun w h => List.mem_cons_of_mem _ (List.mem_append_left _ (List.mem_append_right _ h))) hown hK hP 1 rfl rfl 8 (by decide) (hts (.fieldLink RX3 120 "CashAllocator$BillBook" "disputed" "[I") (by decide +kernel)) (fun _ h9 => h9) rfl dX3_disputed_9 ?_
  refine lv_iload_n hx hb dX3_disputed_12 rfl (lv_at hl 1 rfl) ?_
  refine zald hx hb hK hP 10 (n := 40) (f := (B 8)) rfl (i) rfl (by omega) (by decide) dX3_disputed_13 ?_
  exact W.iret (v := B 8 (i)) hx hb hr (fun t ht hW => ⟨⟨B 8 (i), (), rfl, rfl, by rw [ht]; exact hP, va_K.moved hW.alike hK, hD⟩, hS.F ht⟩) hS.2.2 dX3_disputed_14
set_option maxHeartbeats 4000000 in
set_option maxRecDepth 100000 in
theorem c_X3_writtenOff (l : Launch) (D : va_G) (cI cZ : ClassId) (a : Nat → Nat) (sz : Nat) (B : Nat → Nat → Int32) (R : Nat → Nat → Int32) (E : Nat → Nat → Int32) (td : Int32) (n : Nat) (i : Nat) (hB : B 11 0 = nI n) (hn : n ≤ 40) (hbn : i < n) : Met l yX3_writtenOff wsX3_writtenOff ({ frames := 1, cells := 0, slots := 0, locals := 21 } : Room) (va_Pc [.ref (a 0), .int (nI (i))] (PreW D cI cZ (wCA a cI cZ B R E (td)) sz)) (va_Qi (fun (r : Int32) (u : Unit) => r = B 10 i) (fun (u : Unit) => PostW D cI cZ (va_A (wCA a cI cZ B R E (td)) sz) (wCA a cI cZ B R E (td))) (va_A (wCA a cI cZ B R E (td)) sz)) 0 0 (va_A (wCA a cI cZ B R E (td)) sz) := by
  refine Met.ofW (cc := cX3_writtenOff) (maxL := 2) (ret := (some .int)) (by decide) rfl ?_
  intro p e s m args below meth c s₁ BB hml hv
  obtain ⟨rfl, hsz, hP, hK, hD0⟩ := hv
  have hx := BB.exec
  have hb := BB.bytes
  have hr := BB.returns
  have hts := atoms_spec (ws := wsX3_writtenOff) BB.pre
  have hown : s.vm.findClass RX3 = some m.cls := findClass_of_methodNamed BB.named
  have hlocks := BB.notSynchronized
  clear BB
  subst hsz
  have hD := hD0.self (sz := s.heap.size)
  clear hD0
  generalize hAe : va_A (wCA a cI cZ B R E (td)) s.heap.size = A at hD ⊢
  have hA : ∀ q : Nat, s.heap.size ≤ q → A q := fun q h => by rw [← hAe]; exact Or.inr h
  clear hAe
  have hS : va_S A s.heap s.heap [] := va_S.rf
  have hl := lv_entry ([.ref (a 0), .int (nI (i))]) (n := 2) (Nat.le_of_ble_eq_true rfl)
  rw [lg_entry_eq]
  generalize (lg_sl ([.ref (a 0), .int (nI (i))]) ++ List.replicate (2 - (lg_sl ([.ref (a 0), .int (nI (i))])).length) Slot.unset).toArray = ls at hl ⊢
  have hl : lv_has ls 2 [(0, .ref (a 0)), (1, .int (nI (i)))] := hl
  generalize hHe : s.heap = H at hP
  have hS : va_S A s.heap H [] := by rw [← hHe]; exact va_S.rf
  clear hHe
  generalize hLe : ([] : List Loc) = locs at hS ⊢
  clear hLe
  refine lv_aload_n hx hb dX3_writtenOff_0 rfl (lv_at hl 0 rfl) ?_
  refine lv_iload_n hx hb dX3_writtenOff_1 rfl (lv_at hl 1 rfl) ?_
  refine zcVv (ci := 3) (q0 := 0) (wf := (fun (u : Unit) => (wCA a cI cZ B R E (td)))) (List.range 26) ⟨hx, hb, hml, hown, hts⟩ (zwAll 26 (by decide) rfl hP hD hS hA) hK (c_X3_requireBill l D cI cZ a H.size (B) (R) (E) (td) (nI (i)) (nI_pos (by omega)) (by rw [hB]; exact (nI_ltI (by omega) (by omega)).mpr hbn)) (cwV 1 hts gX3_writtenOff_X3_requireBill rfl rfl rfl (by decide +kernel) ⟨Nat.le_of_ble_eq_true rfl, Nat.le_of_ble_eq_true rfl⟩) rfl rfl (by decide) (fun _ => rfl) rfl hl.1 rfl (Nat.le_of_ble_eq_true rfl) dX3_writtenOff_2 ⟨Nat.le_of_ble_eq_true rfl, Nat.le_of_ble_eq_true rfl⟩ (fun u H locs hw hP hD hS => ?_)
  refine lv_aload_n hx hb dX3_writtenOff_5 rfl (lv_at hl 0 rfl) ?_
  refine va_get (D := D) (ci := 3) (v := .ref (a 1)) (C := RX3) (T := TX3) (N := 4) hx hb hts (fun w h => List.mem_cons_of_mem _ (List.mem_append_left _ (List.mem_append_left _ (List.mem_append_right _ h)))) hown hK hP 0 rfl rfl 0 (by decide) (hts (.fieldLink RX3 10 "CashAllocator" "billBook" "LCashAllocator$BillBook;") (by decide +kernel)) (fun _ h9 => h9) rfl dX3_writtenOff_6 ?_
  refine va_get (D := D) (ci := 0) (v := .ref (a 12)) (C := RX0) (T := TX0) (N := 12) hx hb hts (fun w h => List.mem_cons_of_mem _ (List.mem_append_left _ (List.mem_append_right _ h))) hown hK hP 1 rfl rfl 10 (by decide) (hts (.fieldLink RX3 141 "CashAllocator$BillBook" "writtenOff" "[I") (by decide +kernel)) (fun _ h9 => h9) rfl dX3_writtenOff_9 ?_
  refine lv_iload_n hx hb dX3_writtenOff_12 rfl (lv_at hl 1 rfl) ?_
  refine zald hx hb hK hP 12 (n := 40) (f := (B 10)) rfl (i) rfl (by omega) (by decide) dX3_writtenOff_13 ?_
  exact W.iret (v := B 10 (i)) hx hb hr (fun t ht hW => ⟨⟨B 10 (i), (), rfl, rfl, by rw [ht]; exact hP, va_K.moved hW.alike hK, hD⟩, hS.F ht⟩) hS.2.2 dX3_writtenOff_14
set_option maxHeartbeats 4000000 in
set_option maxRecDepth 100000 in
theorem c_X3_openOf (l : Launch) (D : va_G) (cI cZ : ClassId) (a : Nat → Nat) (sz : Nat) (B : Nat → Nat → Int32) (R : Nat → Nat → Int32) (E : Nat → Nat → Int32) (td : Int32) (n : Nat) (cu : Int32) (hB : B 11 0 = nI n) (hn : n ≤ 40) (h1 : ¬ cu < 0) (h2 : cu < 8) : Met l yX3_openOf wsX3_openOf ({ frames := 1, cells := 0, slots := 0, locals := 21 } : Room) (va_Pc [.ref (a 0), .int (cu)] (PreW D cI cZ (wCA a cI cZ B R E (td)) sz)) (va_Qi (fun (r : Int32) (u : Unit) => r = oof B cu n) (fun (u : Unit) => PostW D cI cZ (va_A (wCA a cI cZ B R E (td)) sz) (wCA a cI cZ B R E (td))) (va_A (wCA a cI cZ B R E (td)) sz)) 0 0 (va_A (wCA a cI cZ B R E (td)) sz) := by
  refine Met.ofW (cc := cX3_openOf) (maxL := 4) (ret := (some .int)) (by decide) rfl ?_
  intro p e s m args below meth c s₁ BB hml hv
  obtain ⟨rfl, hsz, hP, hK, hD0⟩ := hv
  have hx := BB.exec
  have hb := BB.bytes
  have hr := BB.returns
  have hts := atoms_spec (ws := wsX3_openOf) BB.pre
  have hown : s.vm.findClass RX3 = some m.cls := findClass_of_methodNamed BB.named
  have hlocks := BB.notSynchronized
  clear BB
  subst hsz
  have hD := hD0.self (sz := s.heap.size)
  clear hD0
  generalize hAe : va_A (wCA a cI cZ B R E (td)) s.heap.size = A at hD ⊢
  have hA : ∀ q : Nat, s.heap.size ≤ q → A q := fun q h => by rw [← hAe]; exact Or.inr h
  clear hAe
  have hS : va_S A s.heap s.heap [] := va_S.rf
  have hl := lv_entry ([.ref (a 0), .int (cu)]) (n := 4) (Nat.le_of_ble_eq_true rfl)
  rw [lg_entry_eq]
  generalize (lg_sl ([.ref (a 0), .int (cu)]) ++ List.replicate (4 - (lg_sl ([.ref (a 0), .int (cu)])).length) Slot.unset).toArray = ls at hl ⊢
  have hl : lv_has ls 4 [(0, .ref (a 0)), (1, .int (cu))] := hl
  generalize hHe : s.heap = H at hP
  have hS : va_S A s.heap H [] := by rw [← hHe]; exact va_S.rf
  clear hHe
  generalize hLe : ([] : List Loc) = locs at hS ⊢
  clear hLe
  refine lv_iload_n hx hb dX3_openOf_0 rfl (lv_at hl 1 rfl) ?_
  refine zcSv (wf := (fun (u : Unit) => (wCA a cI cZ B R E (td)))) (List.range 26) ⟨hx, hb, hml, hown, hts⟩ (zwNo 26 (by decide) rfl hP hD hS hA) hK (c_X3_requireCustomer l D cI cZ a H.size (cu) (by first | assumption | omega) (by first | assumption | omega)) (cwS 1 hts gX3_openOf_X3_requireCustomer rfl rfl rfl (by decide +kernel) ⟨Nat.le_of_ble_eq_true rfl, Nat.le_of_ble_eq_true rfl⟩) (by decide) (fun _ => rfl) rfl hl.1 rfl (Nat.le_of_ble_eq_true rfl) dX3_openOf_1 ⟨Nat.le_of_ble_eq_true rfl, Nat.le_of_ble_eq_true rfl⟩ (fun u H locs hw hP hD hS => ?_)
  refine lv_iconst (v := 0) hx hb dX3_openOf_4 (by decide) ?_
  refine lv_istore_n (lv' := [(2, .int (0)), (0, .ref (a 0)), (1, .int (cu))]) hx hb dX3_openOf_5 rfl hl (by decide) rfl (fun ls hl => ?_)
  refine lv_iconst (v := nI (0)) hx hb dX3_openOf_6 (by decide) ?_
  refine lv_istore_n (lv' := [(3, .int (nI (0))), (2, .int (0)), (0, .ref (a 0)), (1, .int (cu))]) hx hb dX3_openOf_7 rfl hl (by decide) rfl (fun ls hl => ?_)
  have loop8 : ∀ (fu : Nat) (i : Nat) (tt : Int32) (hin : i ≤ n) (ht : tt = oof B cu i) (hfu : n - i < fu) (H : Heap) (locs : List Loc) (hP : va_P D vwCl (wCA a cI cZ B R E (td)) H) (hD : va_D A (wCA a cI cZ B R E (td))) (hS : va_S A s.heap H locs) (ls : Array Slot) (hl : lv_has ls 4 [(3, .int (nI (i))), (2, .int (tt)), (0, .ref (a 0)), (1, .int (cu))]), W p l e (headSpec wsX3_openOf ({ frames := 1, cells := 0, slots := 0, locals := 21 } : Room)).room s m ([.ref (a 0), .int (cu)] : List Value).toArray below meth c H locs 0 0 (MQ below (va_Qi (fun (r : Int32) (u : Unit) => r = oof B cu n) (fun (u : Unit) => PostW D cI cZ A (wCA a cI cZ B R E (td))) A) ([.ref (a 0), .int (cu)] : List Value).toArray s 0 0 A) (F0 m 8 ls []) := by
    clear hP hD hS hl
    intro fu8
    induction fu8 with
    | zero => intro i tt hin ht hfu; exact absurd hfu (Nat.not_lt_zero _)
    | succ fu8 ih8 =>
      intro i tt hin ht hfu H locs hP hD hS ls hl
      refine lv_iload_n hx hb dX3_openOf_8 rfl (lv_at hl 0 rfl) ?_
      refine lv_aload_n hx hb dX3_openOf_9 rfl (lv_at hl 2 rfl) ?_
      refine va_get (D := D) (ci := 3) (v := .ref (a 1)) (C := RX3) (T := TX3) (N := 4) hx hb hts (fun w h => List.mem_cons_of_mem _ (List.mem_append_left _ (List.mem_append_left _ (List.mem_append_right _ h)))) hown hK hP 0 rfl rfl 0 (by decide) (hts (.fieldLink RX3 10 "CashAllocator" "billBook" "LCashAllocator$BillBook;") (by decide +kernel)) (fun _ h9 => h9) rfl dX3_openOf_10 ?_
      refine va_get (D := D) (ci := 0) (v := .int (nI (n))) (C := RX0) (T := TX0) (N := 12) hx hb hts (fun w h => List.mem_cons_of_mem _ (List.mem_append_left _ (List.mem_append_right _ h))) hown hK hP 1 rfl rfl 11 (by decide) (hts (.fieldLink RX3 43 "CashAllocator$BillBook" "count" "I") (by decide +kernel)) (fun _ h9 => h9) (congrArg (fun z => some (Value.int z)) hB) dX3_openOf_13 ?_
      refine lv_icmp_ge (tgt := 49) hx hb dX3_openOf_16 (by decide) (fun c16 => ?_) (fun c16 => ?_)
      · -- 16 taken
        rw [nI_leI (by omega) (by omega)] at c16
        refine lv_iload_n hx hb dX3_openOf_49 rfl (lv_at hl 1 rfl) ?_
        have hfin : tt = oof B cu n := by rw [ht]; congr 1; omega
        exact W.iret (v := tt) hx hb hr (fun t ht hW => ⟨⟨tt, (), rfl, hfin, by rw [ht]; exact hP, va_K.moved hW.alike hK, hD⟩, hS.F ht⟩) hS.2.2 dX3_openOf_50
      · -- 16 on
        rw [nI_leI (by omega) (by omega)] at c16
        have c16 : i < n := by omega
        refine lv_aload_n hx hb dX3_openOf_19 rfl (lv_at hl 2 rfl) ?_
        refine va_get (D := D) (ci := 3) (v := .ref (a 1)) (C := RX3) (T := TX3) (N := 4) hx hb hts (fun w h => List.mem_cons_of_mem _ (List.mem_append_left _ (List.mem_append_left _ (List.mem_append_right _ h)))) hown hK hP 0 rfl rfl 0 (by decide) (hts (.fieldLink RX3 10 "CashAllocator" "billBook" "LCashAllocator$BillBook;") (by decide +kernel)) (fun _ h9 => h9) rfl dX3_openOf_20 ?_
        refine va_get (D := D) (ci := 0) (v := .ref (a 2)) (C := RX0) (T := TX0) (N := 12) hx hb hts (fun w h => List.mem_cons_of_mem _ (List.mem_append_left _ (List.mem_append_right _ h))) hown hK hP 1 rfl rfl 0 (by decide) (hts (.fieldLink RX3 144 "CashAllocator$BillBook" "customer" "[I") (by decide +kernel)) (fun _ h9 => h9) rfl dX3_openOf_23 ?_
        refine lv_iload_n hx hb dX3_openOf_26 rfl (lv_at hl 0 rfl) ?_
        refine zald hx hb hK hP 2 (n := 40) (f := (B 0)) rfl (i) rfl (by omega) (by decide) dX3_openOf_27 ?_
        refine lv_iload_n hx hb dX3_openOf_28 rfl (lv_at hl 3 rfl) ?_
        refine lv_icmp_ne (tgt := 43) hx hb dX3_openOf_29 (by decide) (fun c29 => ?_) (fun c29 => ?_)
        · -- 29 taken
          refine lv_iinc (v := nI (i + 1)) (lv' := [(3, .int (nI (i + 1))), (2, .int (tt)), (0, .ref (a 0)), (1, .int (cu))]) hx hb dX3_openOf_43 hl (k := 0) rfl (nI_1 _) (by decide) rfl (fun ls hl => ?_)
          refine lv_goto (tgt := 8) hx hb dX3_openOf_46 (by decide) ?_
          exact ih8 (i + 1) (tt) (by omega) (by rw [oof, ht]; first | rw [if_pos c29] | rw [if_neg c29]) (by omega) _ _ hP hD hS _ (lv_sub hl [0, 1, 2, 3] rfl)
        · -- 29 on
          refine lv_iload_n hx hb dX3_openOf_32 rfl (lv_at hl 1 rfl) ?_
          refine lv_aload_n hx hb dX3_openOf_33 rfl (lv_at hl 2 rfl) ?_
          refine va_get (D := D) (ci := 3) (v := .ref (a 1)) (C := RX3) (T := TX3) (N := 4) hx hb hts (fun w h => List.mem_cons_of_mem _ (List.mem_append_left _ (List.mem_append_left _ (List.mem_append_right _ h)))) hown hK hP 0 rfl rfl 0 (by decide) (hts (.fieldLink RX3 10 "CashAllocator" "billBook" "LCashAllocator$BillBook;") (by decide +kernel)) (fun _ h9 => h9) rfl dX3_openOf_34 ?_
          refine lv_iload_n hx hb dX3_openOf_37 rfl (lv_at hl 0 rfl) ?_
          refine zcVi (ci := 0) (q0 := 0) (wf := (fun (u : Unit) => (wCA a cI cZ B R E (td)))) ksBB ⟨hx, hb, hml, hown, hts⟩ (zwBB hP hD hS hA) hK (c_X0_openSum l D cI cZ a H.size (B) (i) (by first | assumption | omega)) (cwV 1 hts gX3_openOf_X0_openSum rfl rfl rfl (by decide +kernel) ⟨Nat.le_of_ble_eq_true rfl, Nat.le_of_ble_eq_true rfl⟩) rfl rfl (by decide) (fun _ => zkBB _) rfl hl.1 rfl (Nat.le_of_ble_eq_true rfl) dX3_openOf_38 ⟨Nat.le_of_ble_eq_true rfl, Nat.le_of_ble_eq_true rfl⟩ (fun r38 u H locs hw hP hD hS => ?_)
          subst hw
          refine lv_iadd hx hb dX3_openOf_41 ?_
          refine lv_istore_n (lv' := [(2, .int ((tt) + (opn (B) (i)))), (3, .int (nI (i))), (0, .ref (a 0)), (1, .int (cu))]) hx hb dX3_openOf_42 rfl hl (by decide) rfl (fun ls hl => ?_)
          refine lv_iinc (v := nI (i + 1)) (lv' := [(3, .int (nI (i + 1))), (2, .int ((tt) + (opn (B) (i)))), (0, .ref (a 0)), (1, .int (cu))]) hx hb dX3_openOf_43 hl (k := 1) rfl (nI_1 _) (by decide) rfl (fun ls hl => ?_)
          refine lv_goto (tgt := 8) hx hb dX3_openOf_46 (by decide) ?_
          exact ih8 (i + 1) ((tt) + (opn (B) (i))) (by omega) (by rw [oof, ht]; first | rw [if_pos c29] | rw [if_neg c29]) (by omega) _ _ hP hD hS _ (lv_sub hl [0, 1, 2, 3] rfl)
  exact loop8 _ (0) (0) (Nat.zero_le _) (rfl) (Nat.lt_succ_self _) _ _ hP hD hS _ (lv_sub hl [0, 1, 2, 3] rfl)
set_option maxHeartbeats 4000000 in
set_option maxRecDepth 100000 in
theorem c_X3_setFor (l : Launch) (D : va_G) (cI cZ : ClassId) (a : Nat → Nat) (sz : Nat) (B : Nat → Nat → Int32) (R : Nat → Nat → Int32) (E : Nat → Nat → Int32) (td : Int32) (n : Nat) (cu : Int32) (sm : Int32) (pl : Nat) (hB : B 11 0 = nI n) (hn : n ≤ 40) (h1 : ¬ cu < 0) (h2 : cu < 8) (h3 : 1 ≤ sm) (h4 : pl < 3) : Met l yX3_setFor wsX3_setFor ({ frames := 4, cells := 0, slots := 0, locals := 91 } : Room) (va_Pc [.ref (a 0), .int (cu), .int (sm), .int (nI (pl))] (PreW D cI cZ (wCA a cI cZ B R E (td)) sz)) (va_Qi (fun (r : Int32) (u : Nat → Nat → Int32) => r = cesE B E cu sm td n 2 pl ∧ u = cesE B E cu sm td n) (fun (u : Nat → Nat → Int32) => PostW D cI cZ (va_A (wCA a cI cZ B R E (td)) sz) (wCA a cI cZ B R u (td))) (va_A (wCA a cI cZ B R E (td)) sz)) 0 0 (va_A (wCA a cI cZ B R E (td)) sz) := by
  refine Met.ofW (cc := cX3_setFor) (maxL := 4) (ret := (some .int)) (by decide) rfl ?_
  intro p e s m args below meth c s₁ BB hml hv
  obtain ⟨rfl, hsz, hP, hK, hD0⟩ := hv
  have hx := BB.exec
  have hb := BB.bytes
  have hr := BB.returns
  have hts := atoms_spec (ws := wsX3_setFor) BB.pre
  have hown : s.vm.findClass RX3 = some m.cls := findClass_of_methodNamed BB.named
  have hlocks := BB.notSynchronized
  clear BB
  subst hsz
  have hD := hD0.self (sz := s.heap.size)
  clear hD0
  generalize hAe : va_A (wCA a cI cZ B R E (td)) s.heap.size = A at hD ⊢
  have hA : ∀ q : Nat, s.heap.size ≤ q → A q := fun q h => by rw [← hAe]; exact Or.inr h
  clear hAe
  have hS : va_S A s.heap s.heap [] := va_S.rf
  have hl := lv_entry ([.ref (a 0), .int (cu), .int (sm), .int (nI (pl))]) (n := 4) (Nat.le_of_ble_eq_true rfl)
  rw [lg_entry_eq]
  generalize (lg_sl ([.ref (a 0), .int (cu), .int (sm), .int (nI (pl))]) ++ List.replicate (4 - (lg_sl ([.ref (a 0), .int (cu), .int (sm), .int (nI (pl))])).length) Slot.unset).toArray = ls at hl ⊢
  have hl : lv_has ls 4 [(0, .ref (a 0)), (1, .int (cu)), (2, .int (sm)), (3, .int (nI (pl)))] := hl
  generalize hHe : s.heap = H at hP
  have hS : va_S A s.heap H [] := by rw [← hHe]; exact va_S.rf
  clear hHe
  generalize hLe : ([] : List Loc) = locs at hS ⊢
  clear hLe
  refine lv_iload_n hx hb dX3_setFor_0 rfl (lv_at hl 1 rfl) ?_
  refine zcSv (wf := (fun (u : Unit) => (wCA a cI cZ B R E (td)))) (List.range 26) ⟨hx, hb, hml, hown, hts⟩ (zwNo 26 (by decide) rfl hP hD hS hA) hK (c_X3_requireCustomer l D cI cZ a H.size (cu) (by first | assumption | omega) (by first | assumption | omega)) (cwS 1 hts gX3_setFor_X3_requireCustomer rfl rfl rfl (by decide +kernel) ⟨Nat.le_of_ble_eq_true rfl, Nat.le_of_ble_eq_true rfl⟩) (by decide) (fun _ => rfl) rfl hl.1 rfl (Nat.le_of_ble_eq_true rfl) dX3_setFor_1 ⟨Nat.le_of_ble_eq_true rfl, Nat.le_of_ble_eq_true rfl⟩ (fun u H locs hw hP hD hS => ?_)
  refine lv_iload_n hx hb dX3_setFor_4 rfl (lv_at hl 3 rfl) ?_
  refine lv_if_lt (tgt := 13) hx hb dX3_setFor_5 (by decide) (fun c5 => ?_) (fun c5 => ?_)
  · -- 5 taken
    exact absurd c5 (nI_pos (by omega))
  · -- 5 on
    refine lv_iload_n hx hb dX3_setFor_8 rfl (lv_at hl 3 rfl) ?_
    refine lv_iconst (v := nI (3)) hx hb dX3_setFor_9 (by decide) ?_
    refine lv_icmp_lt (tgt := 23) hx hb dX3_setFor_10 (by decide) (fun c10 => ?_) (fun c10 => ?_)
    · -- 10 taken
      rw [nI_ltI (by omega) (by omega)] at c10
      refine lv_iload_n hx hb dX3_setFor_23 rfl (lv_at hl 2 rfl) ?_
      refine lv_iconst (v := 1) hx hb dX3_setFor_24 (by decide) ?_
      refine lv_icmp_ge (tgt := 38) hx hb dX3_setFor_25 (by decide) (fun c25 => ?_) (fun c25 => ?_)
      · -- 25 taken
        refine lv_aload_n hx hb dX3_setFor_38 rfl (lv_at hl 0 rfl) ?_
        refine lv_iload_n hx hb dX3_setFor_39 rfl (lv_at hl 1 rfl) ?_
        refine lv_iload_n hx hb dX3_setFor_40 rfl (lv_at hl 2 rfl) ?_
        refine zcVv (ci := 3) (q0 := 0) (wf := (fun (u : Nat → Nat → Int32) => (wCA a cI cZ B R u (td)))) (List.range 26) ⟨hx, hb, hml, hown, hts⟩ (zwAll 26 (by decide) rfl hP hD hS hA) hK (c_X3_chooseExactSet l D cI cZ a H.size (B) (R) (E) (td) (n) (cu) (sm) (by first | assumption | omega) (by first | assumption | omega)) (cwV 2 hts gX3_setFor_X3_chooseExactSet rfl rfl rfl (by decide +kernel) ⟨Nat.le_of_ble_eq_true rfl, Nat.le_of_ble_eq_true rfl⟩) rfl rfl (by decide) (fun _ => rfl) rfl hl.1 rfl (Nat.le_of_ble_eq_true rfl) dX3_setFor_41 ⟨Nat.le_of_ble_eq_true rfl, Nat.le_of_ble_eq_true rfl⟩ (fun u H locs hw hP hD hS => ?_)
        subst hw
        have hP : va_P D vwCl (wCA a cI cZ B R (cesE (B) (E) (cu) (sm) (td) n) (td)) H := hP
        have hD : va_D A (wCA a cI cZ B R (cesE (B) (E) (cu) (sm) (td) n) (td)) := hD
        refine lv_aload_n hx hb dX3_setFor_44 rfl (lv_at hl 0 rfl) ?_
        refine va_get (D := D) (ci := 3) (v := .ref (a 22)) (C := RX3) (T := TX3) (N := 4) hx hb hts (fun w h => List.mem_cons_of_mem _ (List.mem_append_left _ (List.mem_append_left _ (List.mem_append_left _ (List.mem_append_left _ (List.mem_append_right _ h)))))) hown hK hP 0 rfl rfl 2 (by decide) (hts (.fieldLink RX3 26 "CashAllocator" "exactSet" "LCashAllocator$ExactSet;") (by decide +kernel)) (fun _ h9 => h9) rfl dX3_setFor_45 ?_
        refine va_get (D := D) (ci := 1) (v := .ref (a 25)) (C := RX1) (T := TX1) (N := 4) hx hb hts (fun w h => List.mem_cons_of_mem _ (List.mem_append_left _ (List.mem_append_left _ (List.mem_append_left _ (List.mem_append_right _ h))))) hown hK hP 22 rfl rfl 2 (by decide) (hts (.fieldLink RX3 158 "CashAllocator$ExactSet" "chosen" "[I") (by decide +kernel)) (fun _ h9 => h9) rfl dX3_setFor_48 ?_
        refine lv_iload_n hx hb dX3_setFor_51 rfl (lv_at hl 3 rfl) ?_
        refine zald hx hb hK hP 25 (n := 3) (f := ((cesE (B) (E) (cu) (sm) (td) n) 2)) rfl (pl) rfl (by omega) (by decide) dX3_setFor_52 ?_
        exact W.iret (v := (cesE (B) (E) (cu) (sm) (td) n) 2 (pl)) hx hb hr (fun t ht hW => ⟨⟨(cesE (B) (E) (cu) (sm) (td) n) 2 (pl), (cesE (B) (E) (cu) (sm) (td) n), rfl, ⟨rfl, rfl⟩, by rw [ht]; exact hP, va_K.moved hW.alike hK, hD⟩, hS.F ht⟩) hS.2.2 dX3_setFor_53
      · -- 25 on
        exact absurd h3 c25
    · -- 10 on
      rw [nI_ltI (by omega) (by omega)] at c10
      exact absurd h4 c10
set_option maxHeartbeats 4000000 in
set_option maxRecDepth 100000 in
theorem c_X3_customerOf (l : Launch) (D : va_G) (cI cZ : ClassId) (a : Nat → Nat) (sz : Nat) (B : Nat → Nat → Int32) (R : Nat → Nat → Int32) (E : Nat → Nat → Int32) (td : Int32) (q : Nat) (rc : Nat) (hR : R 8 0 = nI q) (hq : q ≤ 30) (hrq : rc < q) : Met l yX3_customerOf wsX3_customerOf ({ frames := 1, cells := 0, slots := 0, locals := 21 } : Room) (va_Pc [.ref (a 0), .int (nI (rc))] (PreW D cI cZ (wCA a cI cZ B R E (td)) sz)) (va_Qi (fun (r : Int32) (u : Unit) => r = R 0 rc) (fun (u : Unit) => PostW D cI cZ (va_A (wCA a cI cZ B R E (td)) sz) (wCA a cI cZ B R E (td))) (va_A (wCA a cI cZ B R E (td)) sz)) 0 0 (va_A (wCA a cI cZ B R E (td)) sz) := by
  refine Met.ofW (cc := cX3_customerOf) (maxL := 2) (ret := (some .int)) (by decide) rfl ?_
  intro p e s m args below meth c s₁ BB hml hv
  obtain ⟨rfl, hsz, hP, hK, hD0⟩ := hv
  have hx := BB.exec
  have hb := BB.bytes
  have hr := BB.returns
  have hts := atoms_spec (ws := wsX3_customerOf) BB.pre
  have hown : s.vm.findClass RX3 = some m.cls := findClass_of_methodNamed BB.named
  have hlocks := BB.notSynchronized
  clear BB
  subst hsz
  have hD := hD0.self (sz := s.heap.size)
  clear hD0
  generalize hAe : va_A (wCA a cI cZ B R E (td)) s.heap.size = A at hD ⊢
  have hA : ∀ q : Nat, s.heap.size ≤ q → A q := fun q h => by rw [← hAe]; exact Or.inr h
  clear hAe
  have hS : va_S A s.heap s.heap [] := va_S.rf
  have hl := lv_entry ([.ref (a 0), .int (nI (rc))]) (n := 2) (Nat.le_of_ble_eq_true rfl)
  rw [lg_entry_eq]
  generalize (lg_sl ([.ref (a 0), .int (nI (rc))]) ++ List.replicate (2 - (lg_sl ([.ref (a 0), .int (nI (rc))])).length) Slot.unset).toArray = ls at hl ⊢
  have hl : lv_has ls 2 [(0, .ref (a 0)), (1, .int (nI (rc)))] := hl
  generalize hHe : s.heap = H at hP
  have hS : va_S A s.heap H [] := by rw [← hHe]; exact va_S.rf
  clear hHe
  generalize hLe : ([] : List Loc) = locs at hS ⊢
  clear hLe
  refine lv_aload_n hx hb dX3_customerOf_0 rfl (lv_at hl 0 rfl) ?_
  refine lv_iload_n hx hb dX3_customerOf_1 rfl (lv_at hl 1 rfl) ?_
  refine zcVv (ci := 3) (q0 := 0) (wf := (fun (u : Unit) => (wCA a cI cZ B R E (td)))) (List.range 26) ⟨hx, hb, hml, hown, hts⟩ (zwAll 26 (by decide) rfl hP hD hS hA) hK (c_X3_requireReceipt l D cI cZ a H.size (B) (R) (E) (td) (nI (rc)) (nI_pos (by omega)) (by rw [hR]; exact (nI_ltI (by omega) (by omega)).mpr hrq)) (cwV 1 hts gX3_customerOf_X3_requireReceipt rfl rfl rfl (by decide +kernel) ⟨Nat.le_of_ble_eq_true rfl, Nat.le_of_ble_eq_true rfl⟩) rfl rfl (by decide) (fun _ => rfl) rfl hl.1 rfl (Nat.le_of_ble_eq_true rfl) dX3_customerOf_2 ⟨Nat.le_of_ble_eq_true rfl, Nat.le_of_ble_eq_true rfl⟩ (fun u H locs hw hP hD hS => ?_)
  refine lv_aload_n hx hb dX3_customerOf_5 rfl (lv_at hl 0 rfl) ?_
  refine va_get (D := D) (ci := 3) (v := .ref (a 13)) (C := RX3) (T := TX3) (N := 4) hx hb hts (fun w h => List.mem_cons_of_mem _ (List.mem_append_left _ (List.mem_append_left _ (List.mem_append_right _ h)))) hown hK hP 0 rfl rfl 1 (by decide) (hts (.fieldLink RX3 19 "CashAllocator" "receiptBook" "LCashAllocator$ReceiptBook;") (by decide +kernel)) (fun _ h9 => h9) rfl dX3_customerOf_6 ?_
  refine va_get (D := D) (ci := 2) (v := .ref (a 14)) (C := RX2) (T := TX2) (N := 9) hx hb hts (fun w h => List.mem_cons_of_mem _ (List.mem_append_left _ (List.mem_append_right _ h))) hown hK hP 13 rfl rfl 0 (by decide) (hts (.fieldLink RX3 79 "CashAllocator$ReceiptBook" "customer" "[I") (by decide +kernel)) (fun _ h9 => h9) rfl dX3_customerOf_9 ?_
  refine lv_iload_n hx hb dX3_customerOf_12 rfl (lv_at hl 1 rfl) ?_
  refine zald hx hb hK hP 14 (n := 30) (f := (R 0)) rfl (rc) rfl (by omega) (by decide) dX3_customerOf_13 ?_
  exact W.iret (v := R 0 (rc)) hx hb hr (fun t ht hW => ⟨⟨R 0 (rc), (), rfl, rfl, by rw [ht]; exact hP, va_K.moved hW.alike hK, hD⟩, hS.F ht⟩) hS.2.2 dX3_customerOf_14
set_option maxHeartbeats 4000000 in
set_option maxRecDepth 100000 in
theorem c_X3_unapplied (l : Launch) (D : va_G) (cI cZ : ClassId) (a : Nat → Nat) (sz : Nat) (B : Nat → Nat → Int32) (R : Nat → Nat → Int32) (E : Nat → Nat → Int32) (td : Int32) (q : Nat) (rc : Nat) (hR : R 8 0 = nI q) (hq : q ≤ 30) (hrq : rc < q) : Met l yX3_unapplied wsX3_unapplied ({ frames := 1, cells := 0, slots := 0, locals := 21 } : Room) (va_Pc [.ref (a 0), .int (nI (rc))] (PreW D cI cZ (wCA a cI cZ B R E (td)) sz)) (va_Qi (fun (r : Int32) (u : Unit) => r = R 3 rc) (fun (u : Unit) => PostW D cI cZ (va_A (wCA a cI cZ B R E (td)) sz) (wCA a cI cZ B R E (td))) (va_A (wCA a cI cZ B R E (td)) sz)) 0 0 (va_A (wCA a cI cZ B R E (td)) sz) := by
  refine Met.ofW (cc := cX3_unapplied) (maxL := 2) (ret := (some .int)) (by decide) rfl ?_
  intro p e s m args below meth c s₁ BB hml hv
  obtain ⟨rfl, hsz, hP, hK, hD0⟩ := hv
  have hx := BB.exec
  have hb := BB.bytes
  have hr := BB.returns
  have hts := atoms_spec (ws := wsX3_unapplied) BB.pre
  have hown : s.vm.findClass RX3 = some m.cls := findClass_of_methodNamed BB.named
  have hlocks := BB.notSynchronized
  clear BB
  subst hsz
  have hD := hD0.self (sz := s.heap.size)
  clear hD0
  generalize hAe : va_A (wCA a cI cZ B R E (td)) s.heap.size = A at hD ⊢
  have hA : ∀ q : Nat, s.heap.size ≤ q → A q := fun q h => by rw [← hAe]; exact Or.inr h
  clear hAe
  have hS : va_S A s.heap s.heap [] := va_S.rf
  have hl := lv_entry ([.ref (a 0), .int (nI (rc))]) (n := 2) (Nat.le_of_ble_eq_true rfl)
  rw [lg_entry_eq]
  generalize (lg_sl ([.ref (a 0), .int (nI (rc))]) ++ List.replicate (2 - (lg_sl ([.ref (a 0), .int (nI (rc))])).length) Slot.unset).toArray = ls at hl ⊢
  have hl : lv_has ls 2 [(0, .ref (a 0)), (1, .int (nI (rc)))] := hl
  generalize hHe : s.heap = H at hP
  have hS : va_S A s.heap H [] := by rw [← hHe]; exact va_S.rf
  clear hHe
  generalize hLe : ([] : List Loc) = locs at hS ⊢
  clear hLe
  refine lv_aload_n hx hb dX3_unapplied_0 rfl (lv_at hl 0 rfl) ?_
  refine lv_iload_n hx hb dX3_unapplied_1 rfl (lv_at hl 1 rfl) ?_
  refine zcVv (ci := 3) (q0 := 0) (wf := (fun (u : Unit) => (wCA a cI cZ B R E (td)))) (List.range 26) ⟨hx, hb, hml, hown, hts⟩ (zwAll 26 (by decide) rfl hP hD hS hA) hK (c_X3_requireReceipt l D cI cZ a H.size (B) (R) (E) (td) (nI (rc)) (nI_pos (by omega)) (by rw [hR]; exact (nI_ltI (by omega) (by omega)).mpr hrq)) (cwV 1 hts gX3_unapplied_X3_requireReceipt rfl rfl rfl (by decide +kernel) ⟨Nat.le_of_ble_eq_true rfl, Nat.le_of_ble_eq_true rfl⟩) rfl rfl (by decide) (fun _ => rfl) rfl hl.1 rfl (Nat.le_of_ble_eq_true rfl) dX3_unapplied_2 ⟨Nat.le_of_ble_eq_true rfl, Nat.le_of_ble_eq_true rfl⟩ (fun u H locs hw hP hD hS => ?_)
  refine lv_aload_n hx hb dX3_unapplied_5 rfl (lv_at hl 0 rfl) ?_
  refine va_get (D := D) (ci := 3) (v := .ref (a 13)) (C := RX3) (T := TX3) (N := 4) hx hb hts (fun w h => List.mem_cons_of_mem _ (List.mem_append_left _ (List.mem_append_left _ (List.mem_append_right _ h)))) hown hK hP 0 rfl rfl 1 (by decide) (hts (.fieldLink RX3 19 "CashAllocator" "receiptBook" "LCashAllocator$ReceiptBook;") (by decide +kernel)) (fun _ h9 => h9) rfl dX3_unapplied_6 ?_
  refine va_get (D := D) (ci := 2) (v := .ref (a 17)) (C := RX2) (T := TX2) (N := 9) hx hb hts (fun w h => List.mem_cons_of_mem _ (List.mem_append_left _ (List.mem_append_right _ h))) hown hK hP 13 rfl rfl 3 (by decide) (hts (.fieldLink RX3 85 "CashAllocator$ReceiptBook" "unapplied" "[I") (by decide +kernel)) (fun _ h9 => h9) rfl dX3_unapplied_9 ?_
  refine lv_iload_n hx hb dX3_unapplied_12 rfl (lv_at hl 1 rfl) ?_
  refine zald hx hb hK hP 17 (n := 30) (f := (R 3)) rfl (rc) rfl (by omega) (by decide) dX3_unapplied_13 ?_
  exact W.iret (v := R 3 (rc)) hx hb hr (fun t ht hW => ⟨⟨R 3 (rc), (), rfl, rfl, by rw [ht]; exact hP, va_K.moved hW.alike hK, hD⟩, hS.F ht⟩) hS.2.2 dX3_unapplied_14
set_option maxHeartbeats 4000000 in
set_option maxRecDepth 100000 in
theorem c_X3_hasBounced (l : Launch) (D : va_G) (cI cZ : ClassId) (a : Nat → Nat) (sz : Nat) (B : Nat → Nat → Int32) (R : Nat → Nat → Int32) (E : Nat → Nat → Int32) (td : Int32) (q : Nat) (rc : Nat) (hR : R 8 0 = nI q) (hq : q ≤ 30) (hrq : rc < q) (hz : R 5 rc = 0 ∨ R 5 rc = 1) : Met l yX3_hasBounced wsX3_hasBounced ({ frames := 1, cells := 0, slots := 0, locals := 21 } : Room) (va_Pc [.ref (a 0), .int (nI (rc))] (PreW D cI cZ (wCA a cI cZ B R E (td)) sz)) (va_Qi (fun (r : Int32) (u : Unit) => r = R 5 rc) (fun (u : Unit) => PostW D cI cZ (va_A (wCA a cI cZ B R E (td)) sz) (wCA a cI cZ B R E (td))) (va_A (wCA a cI cZ B R E (td)) sz)) 0 0 (va_A (wCA a cI cZ B R E (td)) sz) := by
  refine Met.ofW (cc := cX3_hasBounced) (maxL := 2) (ret := (some .boolean)) (by decide) rfl ?_
  intro p e s m args below meth c s₁ BB hml hv
  obtain ⟨rfl, hsz, hP, hK, hD0⟩ := hv
  have hx := BB.exec
  have hb := BB.bytes
  have hr := BB.returns
  have hts := atoms_spec (ws := wsX3_hasBounced) BB.pre
  have hown : s.vm.findClass RX3 = some m.cls := findClass_of_methodNamed BB.named
  have hlocks := BB.notSynchronized
  clear BB
  subst hsz
  have hD := hD0.self (sz := s.heap.size)
  clear hD0
  generalize hAe : va_A (wCA a cI cZ B R E (td)) s.heap.size = A at hD ⊢
  have hA : ∀ q : Nat, s.heap.size ≤ q → A q := fun q h => by rw [← hAe]; exact Or.inr h
  clear hAe
  have hS : va_S A s.heap s.heap [] := va_S.rf
  have hl := lv_entry ([.ref (a 0), .int (nI (rc))]) (n := 2) (Nat.le_of_ble_eq_true rfl)
  rw [lg_entry_eq]
  generalize (lg_sl ([.ref (a 0), .int (nI (rc))]) ++ List.replicate (2 - (lg_sl ([.ref (a 0), .int (nI (rc))])).length) Slot.unset).toArray = ls at hl ⊢
  have hl : lv_has ls 2 [(0, .ref (a 0)), (1, .int (nI (rc)))] := hl
  generalize hHe : s.heap = H at hP
  have hS : va_S A s.heap H [] := by rw [← hHe]; exact va_S.rf
  clear hHe
  generalize hLe : ([] : List Loc) = locs at hS ⊢
  clear hLe
  refine lv_aload_n hx hb dX3_hasBounced_0 rfl (lv_at hl 0 rfl) ?_
  refine lv_iload_n hx hb dX3_hasBounced_1 rfl (lv_at hl 1 rfl) ?_
  refine zcVv (ci := 3) (q0 := 0) (wf := (fun (u : Unit) => (wCA a cI cZ B R E (td)))) (List.range 26) ⟨hx, hb, hml, hown, hts⟩ (zwAll 26 (by decide) rfl hP hD hS hA) hK (c_X3_requireReceipt l D cI cZ a H.size (B) (R) (E) (td) (nI (rc)) (nI_pos (by omega)) (by rw [hR]; exact (nI_ltI (by omega) (by omega)).mpr hrq)) (cwV 1 hts gX3_hasBounced_X3_requireReceipt rfl rfl rfl (by decide +kernel) ⟨Nat.le_of_ble_eq_true rfl, Nat.le_of_ble_eq_true rfl⟩) rfl rfl (by decide) (fun _ => rfl) rfl hl.1 rfl (Nat.le_of_ble_eq_true rfl) dX3_hasBounced_2 ⟨Nat.le_of_ble_eq_true rfl, Nat.le_of_ble_eq_true rfl⟩ (fun u H locs hw hP hD hS => ?_)
  refine lv_aload_n hx hb dX3_hasBounced_5 rfl (lv_at hl 0 rfl) ?_
  refine va_get (D := D) (ci := 3) (v := .ref (a 13)) (C := RX3) (T := TX3) (N := 4) hx hb hts (fun w h => List.mem_cons_of_mem _ (List.mem_append_left _ (List.mem_append_left _ (List.mem_append_right _ h)))) hown hK hP 0 rfl rfl 1 (by decide) (hts (.fieldLink RX3 19 "CashAllocator" "receiptBook" "LCashAllocator$ReceiptBook;") (by decide +kernel)) (fun _ h9 => h9) rfl dX3_hasBounced_6 ?_
  refine va_get (D := D) (ci := 2) (v := .ref (a 19)) (C := RX2) (T := TX2) (N := 9) hx hb hts (fun w h => List.mem_cons_of_mem _ (List.mem_append_left _ (List.mem_append_right _ h))) hown hK hP 13 rfl rfl 5 (by decide) (hts (.fieldLink RX3 161 "CashAllocator$ReceiptBook" "isBounced" "[Z") (by decide +kernel)) (fun _ h9 => h9) rfl dX3_hasBounced_9 ?_
  refine lv_iload_n hx hb dX3_hasBounced_12 rfl (lv_at hl 1 rfl) ?_
  refine zbld hx hb hK hP 19 (n := 30) (f := (R 5)) rfl (rc) rfl (by omega) (by decide) dX3_hasBounced_13 ?_
  exact W.zret (ty := .boolean) (v := R 5 (rc)) hx hb hr (by rcases hz with z | z <;> rw [z] <;> decide) (fun t ht hW => ⟨⟨R 5 (rc), (), rfl, rfl, by rw [ht]; exact hP, va_K.moved hW.alike hK, hD⟩, hS.F ht⟩) hS.2.2 dX3_hasBounced_14
set_option maxHeartbeats 4000000 in
set_option maxRecDepth 100000 in
theorem c_X3_appliedTo (l : Launch) (D : va_G) (cI cZ : ClassId) (a : Nat → Nat) (sz : Nat) (B : Nat → Nat → Int32) (R : Nat → Nat → Int32) (E : Nat → Nat → Int32) (td : Int32) (n : Nat) (q : Nat) (rc : Nat) (b : Nat) (hB : B 11 0 = nI n) (hn : n ≤ 40) (hR : R 8 0 = nI q) (hq : q ≤ 30) (hrq : rc < q) (hbn : b < n) : Met l yX3_appliedTo wsX3_appliedTo ({ frames := 2, cells := 0, slots := 0, locals := 43 } : Room) (va_Pc [.ref (a 0), .int (nI (rc)), .int (nI (b))] (PreW D cI cZ (wCA a cI cZ B R E (td)) sz)) (va_Qi (fun (r : Int32) (u : Unit) => r = R 6 (40 * rc + b)) (fun (u : Unit) => PostW D cI cZ (va_A (wCA a cI cZ B R E (td)) sz) (wCA a cI cZ B R E (td))) (va_A (wCA a cI cZ B R E (td)) sz)) 0 0 (va_A (wCA a cI cZ B R E (td)) sz) := by
  refine Met.ofW (cc := cX3_appliedTo) (maxL := 3) (ret := (some .int)) (by decide) rfl ?_
  intro p e s m args below meth c s₁ BB hml hv
  obtain ⟨rfl, hsz, hP, hK, hD0⟩ := hv
  have hx := BB.exec
  have hb := BB.bytes
  have hr := BB.returns
  have hts := atoms_spec (ws := wsX3_appliedTo) BB.pre
  have hown : s.vm.findClass RX3 = some m.cls := findClass_of_methodNamed BB.named
  have hlocks := BB.notSynchronized
  clear BB
  subst hsz
  have hD := hD0.self (sz := s.heap.size)
  clear hD0
  generalize hAe : va_A (wCA a cI cZ B R E (td)) s.heap.size = A at hD ⊢
  have hA : ∀ q : Nat, s.heap.size ≤ q → A q := fun q h => by rw [← hAe]; exact Or.inr h
  clear hAe
  have hS : va_S A s.heap s.heap [] := va_S.rf
  have hl := lv_entry ([.ref (a 0), .int (nI (rc)), .int (nI (b))]) (n := 3) (Nat.le_of_ble_eq_true rfl)
  rw [lg_entry_eq]
  generalize (lg_sl ([.ref (a 0), .int (nI (rc)), .int (nI (b))]) ++ List.replicate (3 - (lg_sl ([.ref (a 0), .int (nI (rc)), .int (nI (b))])).length) Slot.unset).toArray = ls at hl ⊢
  have hl : lv_has ls 3 [(0, .ref (a 0)), (1, .int (nI (rc))), (2, .int (nI (b)))] := hl
  generalize hHe : s.heap = H at hP
  have hS : va_S A s.heap H [] := by rw [← hHe]; exact va_S.rf
  clear hHe
  generalize hLe : ([] : List Loc) = locs at hS ⊢
  clear hLe
  refine lv_aload_n hx hb dX3_appliedTo_0 rfl (lv_at hl 0 rfl) ?_
  refine lv_iload_n hx hb dX3_appliedTo_1 rfl (lv_at hl 1 rfl) ?_
  refine zcVv (ci := 3) (q0 := 0) (wf := (fun (u : Unit) => (wCA a cI cZ B R E (td)))) (List.range 26) ⟨hx, hb, hml, hown, hts⟩ (zwAll 26 (by decide) rfl hP hD hS hA) hK (c_X3_requireReceipt l D cI cZ a H.size (B) (R) (E) (td) (nI (rc)) (nI_pos (by omega)) (by rw [hR]; exact (nI_ltI (by omega) (by omega)).mpr hrq)) (cwV 1 hts gX3_appliedTo_X3_requireReceipt rfl rfl rfl (by decide +kernel) ⟨Nat.le_of_ble_eq_true rfl, Nat.le_of_ble_eq_true rfl⟩) rfl rfl (by decide) (fun _ => rfl) rfl hl.1 rfl (Nat.le_of_ble_eq_true rfl) dX3_appliedTo_2 ⟨Nat.le_of_ble_eq_true rfl, Nat.le_of_ble_eq_true rfl⟩ (fun u H locs hw hP hD hS => ?_)
  refine lv_aload_n hx hb dX3_appliedTo_5 rfl (lv_at hl 0 rfl) ?_
  refine lv_iload_n hx hb dX3_appliedTo_6 rfl (lv_at hl 2 rfl) ?_
  refine zcVv (ci := 3) (q0 := 0) (wf := (fun (u : Unit) => (wCA a cI cZ B R E (td)))) (List.range 26) ⟨hx, hb, hml, hown, hts⟩ (zwAll 26 (by decide) rfl hP hD hS hA) hK (c_X3_requireBill l D cI cZ a H.size (B) (R) (E) (td) (nI (b)) (nI_pos (by omega)) (by rw [hB]; exact (nI_ltI (by omega) (by omega)).mpr hbn)) (cwV 1 hts gX3_appliedTo_X3_requireBill rfl rfl rfl (by decide +kernel) ⟨Nat.le_of_ble_eq_true rfl, Nat.le_of_ble_eq_true rfl⟩) rfl rfl (by decide) (fun _ => rfl) rfl hl.1 rfl (Nat.le_of_ble_eq_true rfl) dX3_appliedTo_7 ⟨Nat.le_of_ble_eq_true rfl, Nat.le_of_ble_eq_true rfl⟩ (fun u H locs hw hP hD hS => ?_)
  refine lv_aload_n hx hb dX3_appliedTo_10 rfl (lv_at hl 0 rfl) ?_
  refine va_get (D := D) (ci := 3) (v := .ref (a 13)) (C := RX3) (T := TX3) (N := 4) hx hb hts (fun w h => List.mem_cons_of_mem _ (List.mem_append_left _ (List.mem_append_left _ (List.mem_append_left _ (List.mem_append_right _ h))))) hown hK hP 0 rfl rfl 1 (by decide) (hts (.fieldLink RX3 19 "CashAllocator" "receiptBook" "LCashAllocator$ReceiptBook;") (by decide +kernel)) (fun _ h9 => h9) rfl dX3_appliedTo_11 ?_
  refine lv_iload_n hx hb dX3_appliedTo_14 rfl (lv_at hl 1 rfl) ?_
  refine lv_iload_n hx hb dX3_appliedTo_15 rfl (lv_at hl 2 rfl) ?_
  refine zcVi (ci := 2) (q0 := 0) (wf := (fun (u : Unit) => (wCA a cI cZ B R E (td)))) ksRB ⟨hx, hb, hml, hown, hts⟩ (zwRB hP hD hS hA) hK (c_X2_paidOf l D cI cZ a H.size (R) (rc) (b) (by first | assumption | omega) (by first | assumption | omega)) (cwV 2 hts gX3_appliedTo_X2_paidOf rfl rfl rfl (by decide +kernel) ⟨Nat.le_of_ble_eq_true rfl, Nat.le_of_ble_eq_true rfl⟩) rfl rfl (by decide) (fun _ => zkRB _) rfl hl.1 rfl (Nat.le_of_ble_eq_true rfl) dX3_appliedTo_16 ⟨Nat.le_of_ble_eq_true rfl, Nat.le_of_ble_eq_true rfl⟩ (fun r16 u H locs hw hP hD hS => ?_)
  subst hw
  exact W.iret (v := (R) 6 (40 * (rc) + (b))) hx hb hr (fun t ht hW => ⟨⟨(R) 6 (40 * (rc) + (b)), (), rfl, rfl, by rw [ht]; exact hP, va_K.moved hW.alike hK, hD⟩, hS.F ht⟩) hS.2.2 dX3_appliedTo_19
set_option maxHeartbeats 4000000 in
set_option maxRecDepth 100000 in
theorem c_X3_received (l : Launch) (D : va_G) (cI cZ : ClassId) (a : Nat → Nat) (sz : Nat) (B : Nat → Nat → Int32) (R : Nat → Nat → Int32) (E : Nat → Nat → Int32) (td : Int32) (q : Nat) (hR : R 8 0 = nI q) (hq : q ≤ 30) : Met l yX3_received wsX3_received ({ frames := 1, cells := 0, slots := 0, locals := 23 } : Room) (va_Pc [.ref (a 0)] (PreW D cI cZ (wCA a cI cZ B R E (td)) sz)) (va_Qi (fun (r : Int32) (u : Unit) => r = l_sum (R 1) q) (fun (u : Unit) => PostW D cI cZ (va_A (wCA a cI cZ B R E (td)) sz) (wCA a cI cZ B R E (td))) (va_A (wCA a cI cZ B R E (td)) sz)) 0 0 (va_A (wCA a cI cZ B R E (td)) sz) := by
  refine Met.ofW (cc := cX3_received) (maxL := 1) (ret := (some .int)) (by decide) rfl ?_
  intro p e s m args below meth c s₁ BB hml hv
  obtain ⟨rfl, hsz, hP, hK, hD0⟩ := hv
  have hx := BB.exec
  have hb := BB.bytes
  have hr := BB.returns
  have hts := atoms_spec (ws := wsX3_received) BB.pre
  have hown : s.vm.findClass RX3 = some m.cls := findClass_of_methodNamed BB.named
  have hlocks := BB.notSynchronized
  clear BB
  subst hsz
  have hD := hD0.self (sz := s.heap.size)
  clear hD0
  generalize hAe : va_A (wCA a cI cZ B R E (td)) s.heap.size = A at hD ⊢
  have hA : ∀ q : Nat, s.heap.size ≤ q → A q := fun q h => by rw [← hAe]; exact Or.inr h
  clear hAe
  have hS : va_S A s.heap s.heap [] := va_S.rf
  have hl := lv_entry ([.ref (a 0)]) (n := 1) (Nat.le_of_ble_eq_true rfl)
  rw [lg_entry_eq]
  generalize (lg_sl ([.ref (a 0)]) ++ List.replicate (1 - (lg_sl ([.ref (a 0)])).length) Slot.unset).toArray = ls at hl ⊢
  have hl : lv_has ls 1 [(0, .ref (a 0))] := hl
  generalize hHe : s.heap = H at hP
  have hS : va_S A s.heap H [] := by rw [← hHe]; exact va_S.rf
  clear hHe
  generalize hLe : ([] : List Loc) = locs at hS ⊢
  clear hLe
  refine lv_aload_n hx hb dX3_received_0 rfl (lv_at hl 0 rfl) ?_
  refine va_get (D := D) (ci := 3) (v := .ref (a 13)) (C := RX3) (T := TX3) (N := 4) hx hb hts (fun w h => List.mem_cons_of_mem _ (List.mem_append_left _ (List.mem_append_right _ h))) hown hK hP 0 rfl rfl 1 (by decide) (hts (.fieldLink RX3 19 "CashAllocator" "receiptBook" "LCashAllocator$ReceiptBook;") (by decide +kernel)) (fun _ h9 => h9) rfl dX3_received_1 ?_
  refine lv_aload_n hx hb dX3_received_4 rfl (lv_at hl 0 rfl) ?_
  refine va_get (D := D) (ci := 3) (v := .ref (a 13)) (C := RX3) (T := TX3) (N := 4) hx hb hts (fun w h => List.mem_cons_of_mem _ (List.mem_append_left _ (List.mem_append_right _ h))) hown hK hP 0 rfl rfl 1 (by decide) (hts (.fieldLink RX3 19 "CashAllocator" "receiptBook" "LCashAllocator$ReceiptBook;") (by decide +kernel)) (fun _ h9 => h9) rfl dX3_received_5 ?_
  refine va_get (D := D) (ci := 2) (v := .ref (a 15)) (C := RX2) (T := TX2) (N := 9) hx hb hts (fun w h => List.mem_cons_of_mem _ (List.mem_append_right _ h)) hown hK hP 13 rfl rfl 1 (by decide) (hts (.fieldLink RX3 165 "CashAllocator$ReceiptBook" "amount" "[I") (by decide +kernel)) (fun _ h9 => h9) rfl dX3_received_8 ?_
  refine zcVi (ci := 2) (q0 := 0) (wf := (fun (u : Unit) => (wCA a cI cZ B R E (td)))) ksRB ⟨hx, hb, hml, hown, hts⟩ (zwRB hP hD hS hA) hK (c_X2_totalOf_1 l D cI cZ a H.size (R) (q) (by first | assumption | omega) (by first | assumption | omega)) (cwV 1 hts gX3_received_X2_totalOf rfl rfl rfl (by decide +kernel) ⟨Nat.le_of_ble_eq_true rfl, Nat.le_of_ble_eq_true rfl⟩) rfl rfl (by decide) (fun _ => zkRB _) rfl hl.1 rfl (Nat.le_of_ble_eq_true rfl) dX3_received_11 ⟨Nat.le_of_ble_eq_true rfl, Nat.le_of_ble_eq_true rfl⟩ (fun r11 u H locs hw hP hD hS => ?_)
  subst hw
  exact W.iret (v := l_sum ((R) 1) (q)) hx hb hr (fun t ht hW => ⟨⟨l_sum ((R) 1) (q), (), rfl, rfl, by rw [ht]; exact hP, va_K.moved hW.alike hK, hD⟩, hS.F ht⟩) hS.2.2 dX3_received_14
set_option maxHeartbeats 4000000 in
set_option maxRecDepth 100000 in
theorem c_X3_applied (l : Launch) (D : va_G) (cI cZ : ClassId) (a : Nat → Nat) (sz : Nat) (B : Nat → Nat → Int32) (R : Nat → Nat → Int32) (E : Nat → Nat → Int32) (td : Int32) (q : Nat) (hR : R 8 0 = nI q) (hq : q ≤ 30) : Met l yX3_applied wsX3_applied ({ frames := 1, cells := 0, slots := 0, locals := 23 } : Room) (va_Pc [.ref (a 0)] (PreW D cI cZ (wCA a cI cZ B R E (td)) sz)) (va_Qi (fun (r : Int32) (u : Unit) => r = l_sum (R 2) q) (fun (u : Unit) => PostW D cI cZ (va_A (wCA a cI cZ B R E (td)) sz) (wCA a cI cZ B R E (td))) (va_A (wCA a cI cZ B R E (td)) sz)) 0 0 (va_A (wCA a cI cZ B R E (td)) sz) := by
  refine Met.ofW (cc := cX3_applied) (maxL := 1) (ret := (some .int)) (by decide) rfl ?_
  intro p e s m args below meth c s₁ BB hml hv
  obtain ⟨rfl, hsz, hP, hK, hD0⟩ := hv
  have hx := BB.exec
  have hb := BB.bytes
  have hr := BB.returns
  have hts := atoms_spec (ws := wsX3_applied) BB.pre
  have hown : s.vm.findClass RX3 = some m.cls := findClass_of_methodNamed BB.named
  have hlocks := BB.notSynchronized
  clear BB
  subst hsz
  have hD := hD0.self (sz := s.heap.size)
  clear hD0
  generalize hAe : va_A (wCA a cI cZ B R E (td)) s.heap.size = A at hD ⊢
  have hA : ∀ q : Nat, s.heap.size ≤ q → A q := fun q h => by rw [← hAe]; exact Or.inr h
  clear hAe
  have hS : va_S A s.heap s.heap [] := va_S.rf
  have hl := lv_entry ([.ref (a 0)]) (n := 1) (Nat.le_of_ble_eq_true rfl)
  rw [lg_entry_eq]
  generalize (lg_sl ([.ref (a 0)]) ++ List.replicate (1 - (lg_sl ([.ref (a 0)])).length) Slot.unset).toArray = ls at hl ⊢
  have hl : lv_has ls 1 [(0, .ref (a 0))] := hl
  generalize hHe : s.heap = H at hP
  have hS : va_S A s.heap H [] := by rw [← hHe]; exact va_S.rf
  clear hHe
  generalize hLe : ([] : List Loc) = locs at hS ⊢
  clear hLe
  refine lv_aload_n hx hb dX3_applied_0 rfl (lv_at hl 0 rfl) ?_
  refine va_get (D := D) (ci := 3) (v := .ref (a 13)) (C := RX3) (T := TX3) (N := 4) hx hb hts (fun w h => List.mem_cons_of_mem _ (List.mem_append_left _ (List.mem_append_right _ h))) hown hK hP 0 rfl rfl 1 (by decide) (hts (.fieldLink RX3 19 "CashAllocator" "receiptBook" "LCashAllocator$ReceiptBook;") (by decide +kernel)) (fun _ h9 => h9) rfl dX3_applied_1 ?_
  refine lv_aload_n hx hb dX3_applied_4 rfl (lv_at hl 0 rfl) ?_
  refine va_get (D := D) (ci := 3) (v := .ref (a 13)) (C := RX3) (T := TX3) (N := 4) hx hb hts (fun w h => List.mem_cons_of_mem _ (List.mem_append_left _ (List.mem_append_right _ h))) hown hK hP 0 rfl rfl 1 (by decide) (hts (.fieldLink RX3 19 "CashAllocator" "receiptBook" "LCashAllocator$ReceiptBook;") (by decide +kernel)) (fun _ h9 => h9) rfl dX3_applied_5 ?_
  refine va_get (D := D) (ci := 2) (v := .ref (a 16)) (C := RX2) (T := TX2) (N := 9) hx hb hts (fun w h => List.mem_cons_of_mem _ (List.mem_append_right _ h)) hown hK hP 13 rfl rfl 2 (by decide) (hts (.fieldLink RX3 172 "CashAllocator$ReceiptBook" "applied" "[I") (by decide +kernel)) (fun _ h9 => h9) rfl dX3_applied_8 ?_
  refine zcVi (ci := 2) (q0 := 0) (wf := (fun (u : Unit) => (wCA a cI cZ B R E (td)))) ksRB ⟨hx, hb, hml, hown, hts⟩ (zwRB hP hD hS hA) hK (c_X2_totalOf_2 l D cI cZ a H.size (R) (q) (by first | assumption | omega) (by first | assumption | omega)) (cwV 1 hts gX3_applied_X2_totalOf rfl rfl rfl (by decide +kernel) ⟨Nat.le_of_ble_eq_true rfl, Nat.le_of_ble_eq_true rfl⟩) rfl rfl (by decide) (fun _ => zkRB _) rfl hl.1 rfl (Nat.le_of_ble_eq_true rfl) dX3_applied_11 ⟨Nat.le_of_ble_eq_true rfl, Nat.le_of_ble_eq_true rfl⟩ (fun r11 u H locs hw hP hD hS => ?_)
  subst hw
  exact W.iret (v := l_sum ((R) 2) (q)) hx hb hr (fun t ht hW => ⟨⟨l_sum ((R) 2) (q), (), rfl, rfl, by rw [ht]; exact hP, va_K.moved hW.alike hK, hD⟩, hS.F ht⟩) hS.2.2 dX3_applied_14
set_option maxHeartbeats 4000000 in
set_option maxRecDepth 100000 in
theorem c_X3_allUnapplied (l : Launch) (D : va_G) (cI cZ : ClassId) (a : Nat → Nat) (sz : Nat) (B : Nat → Nat → Int32) (R : Nat → Nat → Int32) (E : Nat → Nat → Int32) (td : Int32) (q : Nat) (hR : R 8 0 = nI q) (hq : q ≤ 30) : Met l yX3_allUnapplied wsX3_allUnapplied ({ frames := 1, cells := 0, slots := 0, locals := 23 } : Room) (va_Pc [.ref (a 0)] (PreW D cI cZ (wCA a cI cZ B R E (td)) sz)) (va_Qi (fun (r : Int32) (u : Unit) => r = l_sum (R 3) q) (fun (u : Unit) => PostW D cI cZ (va_A (wCA a cI cZ B R E (td)) sz) (wCA a cI cZ B R E (td))) (va_A (wCA a cI cZ B R E (td)) sz)) 0 0 (va_A (wCA a cI cZ B R E (td)) sz) := by
  refine Met.ofW (cc := cX3_allUnapplied) (maxL := 1) (ret := (some .int)) (by decide) rfl ?_
  intro p e s m args below meth c s₁ BB hml hv
  obtain ⟨rfl, hsz, hP, hK, hD0⟩ := hv
  have hx := BB.exec
  have hb := BB.bytes
  have hr := BB.returns
  have hts := atoms_spec (ws := wsX3_allUnapplied) BB.pre
  have hown : s.vm.findClass RX3 = some m.cls := findClass_of_methodNamed BB.named
  have hlocks := BB.notSynchronized
  clear BB
  subst hsz
  have hD := hD0.self (sz := s.heap.size)
  clear hD0
  generalize hAe : va_A (wCA a cI cZ B R E (td)) s.heap.size = A at hD ⊢
  have hA : ∀ q : Nat, s.heap.size ≤ q → A q := fun q h => by rw [← hAe]; exact Or.inr h
  clear hAe
  have hS : va_S A s.heap s.heap [] := va_S.rf
  have hl := lv_entry ([.ref (a 0)]) (n := 1) (Nat.le_of_ble_eq_true rfl)
  rw [lg_entry_eq]
  generalize (lg_sl ([.ref (a 0)]) ++ List.replicate (1 - (lg_sl ([.ref (a 0)])).length) Slot.unset).toArray = ls at hl ⊢
  have hl : lv_has ls 1 [(0, .ref (a 0))] := hl
  generalize hHe : s.heap = H at hP
  have hS : va_S A s.heap H [] := by rw [← hHe]; exact va_S.rf
  clear hHe
  generalize hLe : ([] : List Loc) = locs at hS ⊢
  clear hLe
  refine lv_aload_n hx hb dX3_allUnapplied_0 rfl (lv_at hl 0 rfl) ?_
  refine va_get (D := D) (ci := 3) (v := .ref (a 13)) (C := RX3) (T := TX3) (N := 4) hx hb hts (fun w h => List.mem_cons_of_mem _ (List.mem_append_left _ (List.mem_append_right _ h))) hown hK hP 0 rfl rfl 1 (by decide) (hts (.fieldLink RX3 19 "CashAllocator" "receiptBook" "LCashAllocator$ReceiptBook;") (by decide +kernel)) (fun _ h9 => h9) rfl dX3_allUnapplied_1 ?_
  refine lv_aload_n hx hb dX3_allUnapplied_4 rfl (lv_at hl 0 rfl) ?_
  refine va_get (D := D) (ci := 3) (v := .ref (a 13)) (C := RX3) (T := TX3) (N := 4) hx hb hts (fun w h => List.mem_cons_of_mem _ (List.mem_append_left _ (List.mem_append_right _ h))) hown hK hP 0 rfl rfl 1 (by decide) (hts (.fieldLink RX3 19 "CashAllocator" "receiptBook" "LCashAllocator$ReceiptBook;") (by decide +kernel)) (fun _ h9 => h9) rfl dX3_allUnapplied_5 ?_
  refine va_get (D := D) (ci := 2) (v := .ref (a 17)) (C := RX2) (T := TX2) (N := 9) hx hb hts (fun w h => List.mem_cons_of_mem _ (List.mem_append_right _ h)) hown hK hP 13 rfl rfl 3 (by decide) (hts (.fieldLink RX3 85 "CashAllocator$ReceiptBook" "unapplied" "[I") (by decide +kernel)) (fun _ h9 => h9) rfl dX3_allUnapplied_8 ?_
  refine zcVi (ci := 2) (q0 := 0) (wf := (fun (u : Unit) => (wCA a cI cZ B R E (td)))) ksRB ⟨hx, hb, hml, hown, hts⟩ (zwRB hP hD hS hA) hK (c_X2_totalOf_3 l D cI cZ a H.size (R) (q) (by first | assumption | omega) (by first | assumption | omega)) (cwV 1 hts gX3_allUnapplied_X2_totalOf rfl rfl rfl (by decide +kernel) ⟨Nat.le_of_ble_eq_true rfl, Nat.le_of_ble_eq_true rfl⟩) rfl rfl (by decide) (fun _ => zkRB _) rfl hl.1 rfl (Nat.le_of_ble_eq_true rfl) dX3_allUnapplied_11 ⟨Nat.le_of_ble_eq_true rfl, Nat.le_of_ble_eq_true rfl⟩ (fun r11 u H locs hw hP hD hS => ?_)
  subst hw
  exact W.iret (v := l_sum ((R) 3) (q)) hx hb hr (fun t ht hW => ⟨⟨l_sum ((R) 3) (q), (), rfl, rfl, by rw [ht]; exact hP, va_K.moved hW.alike hK, hD⟩, hS.F ht⟩) hS.2.2 dX3_allUnapplied_14
set_option maxHeartbeats 4000000 in
set_option maxRecDepth 100000 in
theorem c_X3_paidBack (l : Launch) (D : va_G) (cI cZ : ClassId) (a : Nat → Nat) (sz : Nat) (B : Nat → Nat → Int32) (R : Nat → Nat → Int32) (E : Nat → Nat → Int32) (td : Int32) (q : Nat) (hR : R 8 0 = nI q) (hq : q ≤ 30) : Met l yX3_paidBack wsX3_paidBack ({ frames := 1, cells := 0, slots := 0, locals := 23 } : Room) (va_Pc [.ref (a 0)] (PreW D cI cZ (wCA a cI cZ B R E (td)) sz)) (va_Qi (fun (r : Int32) (u : Unit) => r = l_sum (R 4) q) (fun (u : Unit) => PostW D cI cZ (va_A (wCA a cI cZ B R E (td)) sz) (wCA a cI cZ B R E (td))) (va_A (wCA a cI cZ B R E (td)) sz)) 0 0 (va_A (wCA a cI cZ B R E (td)) sz) := by
  refine Met.ofW (cc := cX3_paidBack) (maxL := 1) (ret := (some .int)) (by decide) rfl ?_
  intro p e s m args below meth c s₁ BB hml hv
  obtain ⟨rfl, hsz, hP, hK, hD0⟩ := hv
  have hx := BB.exec
  have hb := BB.bytes
  have hr := BB.returns
  have hts := atoms_spec (ws := wsX3_paidBack) BB.pre
  have hown : s.vm.findClass RX3 = some m.cls := findClass_of_methodNamed BB.named
  have hlocks := BB.notSynchronized
  clear BB
  subst hsz
  have hD := hD0.self (sz := s.heap.size)
  clear hD0
  generalize hAe : va_A (wCA a cI cZ B R E (td)) s.heap.size = A at hD ⊢
  have hA : ∀ q : Nat, s.heap.size ≤ q → A q := fun q h => by rw [← hAe]; exact Or.inr h
  clear hAe
  have hS : va_S A s.heap s.heap [] := va_S.rf
  have hl := lv_entry ([.ref (a 0)]) (n := 1) (Nat.le_of_ble_eq_true rfl)
  rw [lg_entry_eq]
  generalize (lg_sl ([.ref (a 0)]) ++ List.replicate (1 - (lg_sl ([.ref (a 0)])).length) Slot.unset).toArray = ls at hl ⊢
  have hl : lv_has ls 1 [(0, .ref (a 0))] := hl
  generalize hHe : s.heap = H at hP
  have hS : va_S A s.heap H [] := by rw [← hHe]; exact va_S.rf
  clear hHe
  generalize hLe : ([] : List Loc) = locs at hS ⊢
  clear hLe
  refine lv_aload_n hx hb dX3_paidBack_0 rfl (lv_at hl 0 rfl) ?_
  refine va_get (D := D) (ci := 3) (v := .ref (a 13)) (C := RX3) (T := TX3) (N := 4) hx hb hts (fun w h => List.mem_cons_of_mem _ (List.mem_append_left _ (List.mem_append_right _ h))) hown hK hP 0 rfl rfl 1 (by decide) (hts (.fieldLink RX3 19 "CashAllocator" "receiptBook" "LCashAllocator$ReceiptBook;") (by decide +kernel)) (fun _ h9 => h9) rfl dX3_paidBack_1 ?_
  refine lv_aload_n hx hb dX3_paidBack_4 rfl (lv_at hl 0 rfl) ?_
  refine va_get (D := D) (ci := 3) (v := .ref (a 13)) (C := RX3) (T := TX3) (N := 4) hx hb hts (fun w h => List.mem_cons_of_mem _ (List.mem_append_left _ (List.mem_append_right _ h))) hown hK hP 0 rfl rfl 1 (by decide) (hts (.fieldLink RX3 19 "CashAllocator" "receiptBook" "LCashAllocator$ReceiptBook;") (by decide +kernel)) (fun _ h9 => h9) rfl dX3_paidBack_5 ?_
  refine va_get (D := D) (ci := 2) (v := .ref (a 18)) (C := RX2) (T := TX2) (N := 9) hx hb hts (fun w h => List.mem_cons_of_mem _ (List.mem_append_right _ h)) hown hK hP 13 rfl rfl 4 (by decide) (hts (.fieldLink RX3 96 "CashAllocator$ReceiptBook" "paidBack" "[I") (by decide +kernel)) (fun _ h9 => h9) rfl dX3_paidBack_8 ?_
  refine zcVi (ci := 2) (q0 := 0) (wf := (fun (u : Unit) => (wCA a cI cZ B R E (td)))) ksRB ⟨hx, hb, hml, hown, hts⟩ (zwRB hP hD hS hA) hK (c_X2_totalOf_4 l D cI cZ a H.size (R) (q) (by first | assumption | omega) (by first | assumption | omega)) (cwV 1 hts gX3_paidBack_X2_totalOf rfl rfl rfl (by decide +kernel) ⟨Nat.le_of_ble_eq_true rfl, Nat.le_of_ble_eq_true rfl⟩) rfl rfl (by decide) (fun _ => zkRB _) rfl hl.1 rfl (Nat.le_of_ble_eq_true rfl) dX3_paidBack_11 ⟨Nat.le_of_ble_eq_true rfl, Nat.le_of_ble_eq_true rfl⟩ (fun r11 u H locs hw hP hD hS => ?_)
  subst hw
  exact W.iret (v := l_sum ((R) 4) (q)) hx hb hr (fun t ht hW => ⟨⟨l_sum ((R) 4) (q), (), rfl, rfl, by rw [ht]; exact hP, va_K.moved hW.alike hK, hD⟩, hS.F ht⟩) hS.2.2 dX3_paidBack_14
set_option maxHeartbeats 4000000 in
set_option maxRecDepth 100000 in
theorem c_X3_bounced (l : Launch) (D : va_G) (cI cZ : ClassId) (a : Nat → Nat) (sz : Nat) (B : Nat → Nat → Int32) (R : Nat → Nat → Int32) (E : Nat → Nat → Int32) (td : Int32) (q : Nat) (hR : R 8 0 = nI q) (hq : q ≤ 30) : Met l yX3_bounced wsX3_bounced ({ frames := 1, cells := 0, slots := 0, locals := 22 } : Room) (va_Pc [.ref (a 0)] (PreW D cI cZ (wCA a cI cZ B R E (td)) sz)) (va_Qi (fun (r : Int32) (u : Unit) => r = bsm R q) (fun (u : Unit) => PostW D cI cZ (va_A (wCA a cI cZ B R E (td)) sz) (wCA a cI cZ B R E (td))) (va_A (wCA a cI cZ B R E (td)) sz)) 0 0 (va_A (wCA a cI cZ B R E (td)) sz) := by
  refine Met.ofW (cc := cX3_bounced) (maxL := 1) (ret := (some .int)) (by decide) rfl ?_
  intro p e s m args below meth c s₁ BB hml hv
  obtain ⟨rfl, hsz, hP, hK, hD0⟩ := hv
  have hx := BB.exec
  have hb := BB.bytes
  have hr := BB.returns
  have hts := atoms_spec (ws := wsX3_bounced) BB.pre
  have hown : s.vm.findClass RX3 = some m.cls := findClass_of_methodNamed BB.named
  have hlocks := BB.notSynchronized
  clear BB
  subst hsz
  have hD := hD0.self (sz := s.heap.size)
  clear hD0
  generalize hAe : va_A (wCA a cI cZ B R E (td)) s.heap.size = A at hD ⊢
  have hA : ∀ q : Nat, s.heap.size ≤ q → A q := fun q h => by rw [← hAe]; exact Or.inr h
  clear hAe
  have hS : va_S A s.heap s.heap [] := va_S.rf
  have hl := lv_entry ([.ref (a 0)]) (n := 1) (Nat.le_of_ble_eq_true rfl)
  rw [lg_entry_eq]
  generalize (lg_sl ([.ref (a 0)]) ++ List.replicate (1 - (lg_sl ([.ref (a 0)])).length) Slot.unset).toArray = ls at hl ⊢
  have hl : lv_has ls 1 [(0, .ref (a 0))] := hl
  generalize hHe : s.heap = H at hP
  have hS : va_S A s.heap H [] := by rw [← hHe]; exact va_S.rf
  clear hHe
  generalize hLe : ([] : List Loc) = locs at hS ⊢
  clear hLe
  refine lv_aload_n hx hb dX3_bounced_0 rfl (lv_at hl 0 rfl) ?_
  refine va_get (D := D) (ci := 3) (v := .ref (a 13)) (C := RX3) (T := TX3) (N := 4) hx hb hts (fun w h => List.mem_cons_of_mem _ (List.mem_append_left _ (List.mem_append_right _ h))) hown hK hP 0 rfl rfl 1 (by decide) (hts (.fieldLink RX3 19 "CashAllocator" "receiptBook" "LCashAllocator$ReceiptBook;") (by decide +kernel)) (fun _ h9 => h9) rfl dX3_bounced_1 ?_
  refine zcVi (ci := 2) (q0 := 0) (wf := (fun (u : Unit) => (wCA a cI cZ B R E (td)))) ksRB ⟨hx, hb, hml, hown, hts⟩ (zwRB hP hD hS hA) hK (c_X2_bouncedTotal l D cI cZ a H.size (R) (q) (by first | assumption | omega) (by first | assumption | omega)) (cwV 0 hts gX3_bounced_X2_bouncedTotal rfl rfl rfl (by decide +kernel) ⟨Nat.le_of_ble_eq_true rfl, Nat.le_of_ble_eq_true rfl⟩) rfl rfl (by decide) (fun _ => zkRB _) rfl hl.1 rfl (Nat.le_of_ble_eq_true rfl) dX3_bounced_4 ⟨Nat.le_of_ble_eq_true rfl, Nat.le_of_ble_eq_true rfl⟩ (fun r4 u H locs hw hP hD hS => ?_)
  subst hw
  exact W.iret (v := bsm (R) (q)) hx hb hr (fun t ht hW => ⟨⟨bsm (R) (q), (), rfl, rfl, by rw [ht]; exact hP, va_K.moved hW.alike hK, hD⟩, hS.F ht⟩) hS.2.2 dX3_bounced_7
