
theorem n1 {a b : Prop} (h : ¬ (a ∨ b)) : ¬ a := fun z => h (Or.inl z)
theorem n2 {a b : Prop} (h : ¬ (a ∨ ¬ b)) : b := Classical.byContradiction fun z => h (Or.inr z)
theorem or4n {a b c d : Prop} (h1 : ¬ a) (h2 : ¬ b) (h3 : ¬ c) (h4 : ¬ d) : ¬ (a ∨ b ∨ c ∨ d) := fun h => h.elim h1 fun h => h.elim h2 fun h => h.elim h3 h4
/-- which exception a code stands for -/
def exA (k : Nat) : String := if k = 1 then eI else if k = 2 then eA else eS
def exB (k : Nat) : String := if k = 1 then eI else eS
def billK (n : Nat) (cu am rf rt dy : Int32) : Nat := if cu < 0 ∨ ¬ cu < 8 then 1 else if (am < 1 ∨ ¬ am ≤ 1000000) ∨ (rf < 1 ∨ ¬ rf ≤ 9999) ∨ (rt < 0 ∨ ¬ rt ≤ 10000) ∨ (dy < 0 ∨ ¬ dy ≤ 90) then 2 else if n < 40 then 0 else 3
def rcvK (q : Nat) (cu am rf : Int32) : Nat := if ¬ cu = -1 ∧ (cu < 0 ∨ ¬ cu < 8) then 1 else if (am < 1 ∨ ¬ am ≤ 1000000) ∨ (rf < 0 ∨ ¬ rf ≤ 9999) then 2 else if q < 30 then 0 else 3
def asgK (R : Nat → Nat → Int32) (vx cu : Int32) : Nat := if (vx < 0 ∨ ¬ vx < R 8 0) ∨ (cu < 0 ∨ ¬ cu < 8) then 1 else if ¬ R 5 vx.toNatClampNeg = 0 ∨ ¬ R 0 vx.toNatClampNeg = -1 then 2 else 0
def aplK (R : Nat → Nat → Int32) (vx : Int32) : Nat := if vx < 0 ∨ ¬ vx < R 8 0 then 1 else if ¬ R 5 vx.toNatClampNeg = 0 ∨ R 0 vx.toNatClampNeg = -1 then 2 else 0
def pbkK (R : Nat → Nat → Int32) (vx : Int32) : Nat := if vx < 0 ∨ ¬ vx < R 8 0 then 1 else if ¬ R 5 vx.toNatClampNeg = 0 ∨ R 3 vx.toNatClampNeg = 0 then 2 else 0
def bncK (R : Nat → Nat → Int32) (vx : Int32) : Nat := if vx < 0 ∨ ¬ vx < R 8 0 then 1 else if ¬ R 5 vx.toNatClampNeg = 0 ∨ ¬ R 4 vx.toNatClampNeg ≤ 0 then 2 else 0
def stlK (B : Nat → Nat → Int32) (vx : Int32) : Nat := if vx < 0 ∨ ¬ vx < B 11 0 then 1 else if B 8 vx.toNatClampNeg = 0 then 2 else 0
def stfK (cu sm pl : Int32) : Nat := if (cu < 0 ∨ ¬ cu < 8) ∨ (pl < 0 ∨ ¬ pl < 3) then 1 else if sm < 1 then 2 else 0
set_option maxHeartbeats 4000000 in
set_option maxRecDepth 100000 in
theorem x_X3_requireCustomer (l : Launch) (hfl : l.stackTraces = false) (D : va_G) (cI cZ : ClassId) (a : Nat → Nat) (sz : Nat) (cu : Int32) (h : cu < 0 ∨ ¬ cu < 8) : vx_Met l yX3_requireCustomer wsX3_requireCustomer ({ frames := 6, cells := 1, slots := 6, locals := 90 } : Room) (va_Pc [.int (cu)] (PreX D cI cZ ([] : va_W) sz)) (QNo (va_A ([] : va_W) sz)) (XCw D cI cZ (va_A ([] : va_W) sz) ([] : va_W) eI) 1 6 (va_A ([] : va_W) sz) := by
  refine vx_ofW (cc := cX3_requireCustomer) (maxL := 1) (ret := none) (by decide) rfl ?_
  intro p e s m args below meth c s₁ BB hml htb hv
  obtain ⟨rfl, ⟨hsz, hP, hK, hD0⟩, hX, hZ⟩ := hv
  have hx := BB.exec
  have hb := BB.bytes
  have hr := BB.returns
  have hts := atoms_spec (ws := wsX3_requireCustomer) BB.pre
  have hown : s.vm.findClass RX3 = some m.cls := findClass_of_methodNamed BB.named
  have hlocks := BB.notSynchronized
  clear BB
  subst hsz
  have hD := hD0.self (sz := s.heap.size)
  clear hD0
  generalize hAe : va_A ([] : va_W) s.heap.size = A at hD hZ ⊢
  have hA : ∀ q : Nat, s.heap.size ≤ q → A q := fun q h => by rw [← hAe]; exact Or.inr h
  clear hAe
  have hl := lv_entry ([.int (cu)]) (n := 1) (Nat.le_of_ble_eq_true rfl)
  rw [lg_entry_eq]
  generalize (lg_sl ([.int (cu)]) ++ List.replicate (1 - (lg_sl ([.int (cu)])).length) Slot.unset).toArray = ls at hl ⊢
  have hl : lv_has ls 1 [(0, .int (cu))] := hl
  generalize hHe : s.heap = H at hP ⊢
  have hS : va_S A s.heap H [] := by rw [← hHe]; exact va_S.rf
  clear hHe
  generalize hLe : ([] : List Loc) = locs at hS ⊢
  clear hLe
  refine lv_iload_n hx hb dX3_requireCustomer_0 rfl (lv_at hl 0 rfl) ?_
  refine lv_if_lt (tgt := 10) hx hb dX3_requireCustomer_1 (by decide) (fun c1 => ?_) (fun c1 => ?_)
  · -- 1 taken
    exact zthrow hx hb hfl (cls := eI) (text := "no such customer") (ik := 145) (is := 215) (ic := 149) (by decide) (by decide) rfl hown (hts (.classLink RX3 145 eI) (by decide +kernel)) (hts (.initialized eI) (by decide +kernel)) (fun w h => hts w ((fun w h => List.mem_cons_of_mem _ (List.mem_append_right _ h)) w h)) hgI hbI hX hZ hK hP hD hS hl.1 hml dX3_requireCustomer_10 dX3_requireCustomer_13 ⟨dX3_requireCustomer_14, dX3_requireCustomer_16, dX3_requireCustomer_19⟩ htb (Nat.le_of_ble_eq_true rfl) (Nat.le_of_ble_eq_true rfl) ⟨Nat.le_of_ble_eq_true rfl, Nat.le_of_ble_eq_true rfl⟩ hlocks (Nat.le_refl _) (Nat.le_refl _)
  · -- 1 on
    refine lv_iload_n hx hb dX3_requireCustomer_4 rfl (lv_at hl 0 rfl) ?_
    refine lv_bipush (v := 8) hx hb dX3_requireCustomer_5 (by decide) ?_
    refine lv_icmp_lt (tgt := 20) hx hb dX3_requireCustomer_7 (by decide) (fun c7 => ?_) (fun c7 => ?_)
    · -- 7 taken
      exact absurd c7 (h.resolve_left c1)
    · -- 7 on
      exact zthrow hx hb hfl (cls := eI) (text := "no such customer") (ik := 145) (is := 215) (ic := 149) (by decide) (by decide) rfl hown (hts (.classLink RX3 145 eI) (by decide +kernel)) (hts (.initialized eI) (by decide +kernel)) (fun w h => hts w ((fun w h => List.mem_cons_of_mem _ (List.mem_append_right _ h)) w h)) hgI hbI hX hZ hK hP hD hS hl.1 hml dX3_requireCustomer_10 dX3_requireCustomer_13 ⟨dX3_requireCustomer_14, dX3_requireCustomer_16, dX3_requireCustomer_19⟩ htb (Nat.le_of_ble_eq_true rfl) (Nat.le_of_ble_eq_true rfl) ⟨Nat.le_of_ble_eq_true rfl, Nat.le_of_ble_eq_true rfl⟩ hlocks (Nat.le_refl _) (Nat.le_refl _)
set_option maxHeartbeats 4000000 in
set_option maxRecDepth 100000 in
theorem x_X3_requireWithin (l : Launch) (hfl : l.stackTraces = false) (D : va_G) (cI cZ : ClassId) (a : Nat → Nat) (sz : Nat) (vv : Int32) (lo : Int32) (hi : Int32) (h : vv < lo ∨ ¬ vv ≤ hi) : vx_Met l yX3_requireWithin wsX3_requireWithin ({ frames := 6, cells := 1, slots := 6, locals := 90 } : Room) (va_Pc [.int (vv), .int (lo), .int (hi)] (PreX D cI cZ ([] : va_W) sz)) (QNo (va_A ([] : va_W) sz)) (XCw D cI cZ (va_A ([] : va_W) sz) ([] : va_W) eA) 1 6 (va_A ([] : va_W) sz) := by
  refine vx_ofW (cc := cX3_requireWithin) (maxL := 3) (ret := none) (by decide) rfl ?_
  intro p e s m args below meth c s₁ BB hml htb hv
  obtain ⟨rfl, ⟨hsz, hP, hK, hD0⟩, hX, hZ⟩ := hv
  have hx := BB.exec
  have hb := BB.bytes
  have hr := BB.returns
  have hts := atoms_spec (ws := wsX3_requireWithin) BB.pre
  have hown : s.vm.findClass RX3 = some m.cls := findClass_of_methodNamed BB.named
  have hlocks := BB.notSynchronized
  clear BB
  subst hsz
  have hD := hD0.self (sz := s.heap.size)
  clear hD0
  generalize hAe : va_A ([] : va_W) s.heap.size = A at hD hZ ⊢
  have hA : ∀ q : Nat, s.heap.size ≤ q → A q := fun q h => by rw [← hAe]; exact Or.inr h
  clear hAe
  have hl := lv_entry ([.int (vv), .int (lo), .int (hi)]) (n := 3) (Nat.le_of_ble_eq_true rfl)
  rw [lg_entry_eq]
  generalize (lg_sl ([.int (vv), .int (lo), .int (hi)]) ++ List.replicate (3 - (lg_sl ([.int (vv), .int (lo), .int (hi)])).length) Slot.unset).toArray = ls at hl ⊢
  have hl : lv_has ls 3 [(0, .int (vv)), (1, .int (lo)), (2, .int (hi))] := hl
  generalize hHe : s.heap = H at hP ⊢
  have hS : va_S A s.heap H [] := by rw [← hHe]; exact va_S.rf
  clear hHe
  generalize hLe : ([] : List Loc) = locs at hS ⊢
  clear hLe
  refine lv_iload_n hx hb dX3_requireWithin_0 rfl (lv_at hl 0 rfl) ?_
  refine lv_iload_n hx hb dX3_requireWithin_1 rfl (lv_at hl 1 rfl) ?_
  refine lv_icmp_lt (tgt := 10) hx hb dX3_requireWithin_2 (by decide) (fun c2 => ?_) (fun c2 => ?_)
  · -- 2 taken
    exact zthrow hx hb hfl (cls := eA) (text := "an argument is out of range") (ik := 150) (is := 223) (ic := 154) (by decide) (by decide) rfl hown (hts (.classLink RX3 150 eA) (by decide +kernel)) (hts (.initialized eA) (by decide +kernel)) (fun w h => hts w ((fun w h => List.mem_cons_of_mem _ (List.mem_append_right _ h)) w h)) hgA hbA hX hZ hK hP hD hS hl.1 hml dX3_requireWithin_10 dX3_requireWithin_13 ⟨dX3_requireWithin_14, dX3_requireWithin_16, dX3_requireWithin_19⟩ htb (Nat.le_of_ble_eq_true rfl) (Nat.le_of_ble_eq_true rfl) ⟨Nat.le_of_ble_eq_true rfl, Nat.le_of_ble_eq_true rfl⟩ hlocks (Nat.le_refl _) (Nat.le_refl _)
  · -- 2 on
    refine lv_iload_n hx hb dX3_requireWithin_5 rfl (lv_at hl 0 rfl) ?_
    refine lv_iload_n hx hb dX3_requireWithin_6 rfl (lv_at hl 2 rfl) ?_
    refine lv_icmp_le (tgt := 20) hx hb dX3_requireWithin_7 (by decide) (fun c7 => ?_) (fun c7 => ?_)
    · -- 7 taken
      exact absurd c7 (h.resolve_left c2)
    · -- 7 on
      exact zthrow hx hb hfl (cls := eA) (text := "an argument is out of range") (ik := 150) (is := 223) (ic := 154) (by decide) (by decide) rfl hown (hts (.classLink RX3 150 eA) (by decide +kernel)) (hts (.initialized eA) (by decide +kernel)) (fun w h => hts w ((fun w h => List.mem_cons_of_mem _ (List.mem_append_right _ h)) w h)) hgA hbA hX hZ hK hP hD hS hl.1 hml dX3_requireWithin_10 dX3_requireWithin_13 ⟨dX3_requireWithin_14, dX3_requireWithin_16, dX3_requireWithin_19⟩ htb (Nat.le_of_ble_eq_true rfl) (Nat.le_of_ble_eq_true rfl) ⟨Nat.le_of_ble_eq_true rfl, Nat.le_of_ble_eq_true rfl⟩ hlocks (Nat.le_refl _) (Nat.le_refl _)
set_option maxHeartbeats 4000000 in
set_option maxRecDepth 100000 in
theorem x_X3_requireBill (l : Launch) (hfl : l.stackTraces = false) (D : va_G) (cI cZ : ClassId) (a : Nat → Nat) (sz : Nat) (B : Nat → Nat → Int32) (R : Nat → Nat → Int32) (E : Nat → Nat → Int32) (td : Int32) (vx : Int32) (h : vx < 0 ∨ ¬ vx < B 11 0) : vx_Met l yX3_requireBill wsX3_requireBill ({ frames := 6, cells := 1, slots := 6, locals := 90 } : Room) (va_Pc [.ref (a 0), .int (vx)] (PreX D cI cZ (wCA a cI cZ B R E (td)) sz)) (QNo (va_A (wCA a cI cZ B R E (td)) sz)) (XCw D cI cZ (va_A (wCA a cI cZ B R E (td)) sz) (wCA a cI cZ B R E (td)) eI) 1 6 (va_A (wCA a cI cZ B R E (td)) sz) := by
  refine vx_ofW (cc := cX3_requireBill) (maxL := 2) (ret := none) (by decide) rfl ?_
  intro p e s m args below meth c s₁ BB hml htb hv
  obtain ⟨rfl, ⟨hsz, hP, hK, hD0⟩, hX, hZ⟩ := hv
  have hx := BB.exec
  have hb := BB.bytes
  have hr := BB.returns
  have hts := atoms_spec (ws := wsX3_requireBill) BB.pre
  have hown : s.vm.findClass RX3 = some m.cls := findClass_of_methodNamed BB.named
  have hlocks := BB.notSynchronized
  clear BB
  subst hsz
  have hD := hD0.self (sz := s.heap.size)
  clear hD0
  generalize hAe : va_A (wCA a cI cZ B R E (td)) s.heap.size = A at hD hZ ⊢
  have hA : ∀ q : Nat, s.heap.size ≤ q → A q := fun q h => by rw [← hAe]; exact Or.inr h
  clear hAe
  have hl := lv_entry ([.ref (a 0), .int (vx)]) (n := 2) (Nat.le_of_ble_eq_true rfl)
  rw [lg_entry_eq]
  generalize (lg_sl ([.ref (a 0), .int (vx)]) ++ List.replicate (2 - (lg_sl ([.ref (a 0), .int (vx)])).length) Slot.unset).toArray = ls at hl ⊢
  have hl : lv_has ls 2 [(0, .ref (a 0)), (1, .int (vx))] := hl
  generalize hHe : s.heap = H at hP ⊢
  have hS : va_S A s.heap H [] := by rw [← hHe]; exact va_S.rf
  clear hHe
  generalize hLe : ([] : List Loc) = locs at hS ⊢
  clear hLe
  refine lv_iload_n hx hb dX3_requireBill_0 rfl (lv_at hl 1 rfl) ?_
  refine lv_if_lt (tgt := 15) hx hb dX3_requireBill_1 (by decide) (fun c1 => ?_) (fun c1 => ?_)
  · -- 1 taken
    exact zthrow hx hb hfl (cls := eI) (text := "no such bill") (ik := 145) (is := 217) (ic := 149) (by decide) (by decide) rfl hown (hts (.classLink RX3 145 eI) (by decide +kernel)) (hts (.initialized eI) (by decide +kernel)) (fun w h => hts w ((fun w h => List.mem_cons_of_mem _ (List.mem_append_right _ h)) w h)) hgI hbI hX hZ hK hP hD hS hl.1 hml dX3_requireBill_15 dX3_requireBill_18 ⟨dX3_requireBill_19, dX3_requireBill_21, dX3_requireBill_24⟩ htb (Nat.le_of_ble_eq_true rfl) (Nat.le_of_ble_eq_true rfl) ⟨Nat.le_of_ble_eq_true rfl, Nat.le_of_ble_eq_true rfl⟩ hlocks (Nat.le_refl _) (Nat.le_refl _)
  · -- 1 on
    refine lv_iload_n hx hb dX3_requireBill_4 rfl (lv_at hl 1 rfl) ?_
    refine lv_aload_n hx hb dX3_requireBill_5 rfl (lv_at hl 0 rfl) ?_
    refine va_get (D := D) (ci := 3) (v := .ref (a 1)) (C := RX3) (T := TX3) (N := 4) hx hb hts (fun w h => List.mem_cons_of_mem _ (List.mem_append_left _ (List.mem_append_left _ (List.mem_append_right _ h)))) hown hK hP 0 rfl rfl 0 (by decide) (hts (.fieldLink RX3 10 "CashAllocator" "billBook" "LCashAllocator$BillBook;") (by decide +kernel)) (fun _ h9 => h9) rfl dX3_requireBill_6 ?_
    refine va_get (D := D) (ci := 0) (v := .int (B 11 (0))) (C := RX0) (T := TX0) (N := 12) hx hb hts (fun w h => List.mem_cons_of_mem _ (List.mem_append_left _ (List.mem_append_right _ h))) hown hK hP 1 rfl rfl 11 (by decide) (hts (.fieldLink RX3 43 "CashAllocator$BillBook" "count" "I") (by decide +kernel)) (fun _ h9 => h9) rfl dX3_requireBill_9 ?_
    refine lv_icmp_lt (tgt := 25) hx hb dX3_requireBill_12 (by decide) (fun c12 => ?_) (fun c12 => ?_)
    · -- 12 taken
      exact absurd c12 (h.resolve_left c1)
    · -- 12 on
      exact zthrow hx hb hfl (cls := eI) (text := "no such bill") (ik := 145) (is := 217) (ic := 149) (by decide) (by decide) rfl hown (hts (.classLink RX3 145 eI) (by decide +kernel)) (hts (.initialized eI) (by decide +kernel)) (fun w h => hts w ((fun w h => List.mem_cons_of_mem _ (List.mem_append_right _ h)) w h)) hgI hbI hX hZ hK hP hD hS hl.1 hml dX3_requireBill_15 dX3_requireBill_18 ⟨dX3_requireBill_19, dX3_requireBill_21, dX3_requireBill_24⟩ htb (Nat.le_of_ble_eq_true rfl) (Nat.le_of_ble_eq_true rfl) ⟨Nat.le_of_ble_eq_true rfl, Nat.le_of_ble_eq_true rfl⟩ hlocks (Nat.le_refl _) (Nat.le_refl _)
set_option maxHeartbeats 4000000 in
set_option maxRecDepth 100000 in
theorem x_X3_requireReceipt (l : Launch) (hfl : l.stackTraces = false) (D : va_G) (cI cZ : ClassId) (a : Nat → Nat) (sz : Nat) (B : Nat → Nat → Int32) (R : Nat → Nat → Int32) (E : Nat → Nat → Int32) (td : Int32) (vx : Int32) (h : vx < 0 ∨ ¬ vx < R 8 0) : vx_Met l yX3_requireReceipt wsX3_requireReceipt ({ frames := 6, cells := 1, slots := 6, locals := 90 } : Room) (va_Pc [.ref (a 0), .int (vx)] (PreX D cI cZ (wCA a cI cZ B R E (td)) sz)) (QNo (va_A (wCA a cI cZ B R E (td)) sz)) (XCw D cI cZ (va_A (wCA a cI cZ B R E (td)) sz) (wCA a cI cZ B R E (td)) eI) 1 6 (va_A (wCA a cI cZ B R E (td)) sz) := by
  refine vx_ofW (cc := cX3_requireReceipt) (maxL := 2) (ret := none) (by decide) rfl ?_
  intro p e s m args below meth c s₁ BB hml htb hv
  obtain ⟨rfl, ⟨hsz, hP, hK, hD0⟩, hX, hZ⟩ := hv
  have hx := BB.exec
  have hb := BB.bytes
  have hr := BB.returns
  have hts := atoms_spec (ws := wsX3_requireReceipt) BB.pre
  have hown : s.vm.findClass RX3 = some m.cls := findClass_of_methodNamed BB.named
  have hlocks := BB.notSynchronized
  clear BB
  subst hsz
  have hD := hD0.self (sz := s.heap.size)
  clear hD0
  generalize hAe : va_A (wCA a cI cZ B R E (td)) s.heap.size = A at hD hZ ⊢
  have hA : ∀ q : Nat, s.heap.size ≤ q → A q := fun q h => by rw [← hAe]; exact Or.inr h
  clear hAe
  have hl := lv_entry ([.ref (a 0), .int (vx)]) (n := 2) (Nat.le_of_ble_eq_true rfl)
  rw [lg_entry_eq]
  generalize (lg_sl ([.ref (a 0), .int (vx)]) ++ List.replicate (2 - (lg_sl ([.ref (a 0), .int (vx)])).length) Slot.unset).toArray = ls at hl ⊢
  have hl : lv_has ls 2 [(0, .ref (a 0)), (1, .int (vx))] := hl
  generalize hHe : s.heap = H at hP ⊢
  have hS : va_S A s.heap H [] := by rw [← hHe]; exact va_S.rf
  clear hHe
  generalize hLe : ([] : List Loc) = locs at hS ⊢
  clear hLe
  refine lv_iload_n hx hb dX3_requireReceipt_0 rfl (lv_at hl 1 rfl) ?_
  refine lv_if_lt (tgt := 15) hx hb dX3_requireReceipt_1 (by decide) (fun c1 => ?_) (fun c1 => ?_)
  · -- 1 taken
    exact zthrow hx hb hfl (cls := eI) (text := "no such receipt") (ik := 145) (is := 219) (ic := 149) (by decide) (by decide) rfl hown (hts (.classLink RX3 145 eI) (by decide +kernel)) (hts (.initialized eI) (by decide +kernel)) (fun w h => hts w ((fun w h => List.mem_cons_of_mem _ (List.mem_append_right _ h)) w h)) hgI hbI hX hZ hK hP hD hS hl.1 hml dX3_requireReceipt_15 dX3_requireReceipt_18 ⟨dX3_requireReceipt_19, dX3_requireReceipt_21, dX3_requireReceipt_24⟩ htb (Nat.le_of_ble_eq_true rfl) (Nat.le_of_ble_eq_true rfl) ⟨Nat.le_of_ble_eq_true rfl, Nat.le_of_ble_eq_true rfl⟩ hlocks (Nat.le_refl _) (Nat.le_refl _)
  · -- 1 on
    refine lv_iload_n hx hb dX3_requireReceipt_4 rfl (lv_at hl 1 rfl) ?_
    refine lv_aload_n hx hb dX3_requireReceipt_5 rfl (lv_at hl 0 rfl) ?_
    refine va_get (D := D) (ci := 3) (v := .ref (a 13)) (C := RX3) (T := TX3) (N := 4) hx hb hts (fun w h => List.mem_cons_of_mem _ (List.mem_append_left _ (List.mem_append_left _ (List.mem_append_right _ h)))) hown hK hP 0 rfl rfl 1 (by decide) (hts (.fieldLink RX3 19 "CashAllocator" "receiptBook" "LCashAllocator$ReceiptBook;") (by decide +kernel)) (fun _ h9 => h9) rfl dX3_requireReceipt_6 ?_
    refine va_get (D := D) (ci := 2) (v := .int (R 8 (0))) (C := RX2) (T := TX2) (N := 9) hx hb hts (fun w h => List.mem_cons_of_mem _ (List.mem_append_left _ (List.mem_append_right _ h))) hown hK hP 13 rfl rfl 8 (by decide) (hts (.fieldLink RX3 61 "CashAllocator$ReceiptBook" "count" "I") (by decide +kernel)) (fun _ h9 => h9) rfl dX3_requireReceipt_9 ?_
    refine lv_icmp_lt (tgt := 25) hx hb dX3_requireReceipt_12 (by decide) (fun c12 => ?_) (fun c12 => ?_)
    · -- 12 taken
      exact absurd c12 (h.resolve_left c1)
    · -- 12 on
      exact zthrow hx hb hfl (cls := eI) (text := "no such receipt") (ik := 145) (is := 219) (ic := 149) (by decide) (by decide) rfl hown (hts (.classLink RX3 145 eI) (by decide +kernel)) (hts (.initialized eI) (by decide +kernel)) (fun w h => hts w ((fun w h => List.mem_cons_of_mem _ (List.mem_append_right _ h)) w h)) hgI hbI hX hZ hK hP hD hS hl.1 hml dX3_requireReceipt_15 dX3_requireReceipt_18 ⟨dX3_requireReceipt_19, dX3_requireReceipt_21, dX3_requireReceipt_24⟩ htb (Nat.le_of_ble_eq_true rfl) (Nat.le_of_ble_eq_true rfl) ⟨Nat.le_of_ble_eq_true rfl, Nat.le_of_ble_eq_true rfl⟩ hlocks (Nat.le_refl _) (Nat.le_refl _)
set_option maxHeartbeats 4000000 in
set_option maxRecDepth 100000 in
theorem x_X3_requireNotBounced (l : Launch) (hfl : l.stackTraces = false) (D : va_G) (cI cZ : ClassId) (a : Nat → Nat) (sz : Nat) (B : Nat → Nat → Int32) (R : Nat → Nat → Int32) (E : Nat → Nat → Int32) (td : Int32) (rc : Nat) (hrc : rc < 30) (h : ¬ R 5 rc = 0) : vx_Met l yX3_requireNotBounced wsX3_requireNotBounced ({ frames := 6, cells := 1, slots := 6, locals := 90 } : Room) (va_Pc [.ref (a 0), .int (nI (rc))] (PreX D cI cZ (wCA a cI cZ B R E (td)) sz)) (QNo (va_A (wCA a cI cZ B R E (td)) sz)) (XCw D cI cZ (va_A (wCA a cI cZ B R E (td)) sz) (wCA a cI cZ B R E (td)) eS) 1 6 (va_A (wCA a cI cZ B R E (td)) sz) := by
  refine vx_ofW (cc := cX3_requireNotBounced) (maxL := 2) (ret := none) (by decide) rfl ?_
  intro p e s m args below meth c s₁ BB hml htb hv
  obtain ⟨rfl, ⟨hsz, hP, hK, hD0⟩, hX, hZ⟩ := hv
  have hx := BB.exec
  have hb := BB.bytes
  have hr := BB.returns
  have hts := atoms_spec (ws := wsX3_requireNotBounced) BB.pre
  have hown : s.vm.findClass RX3 = some m.cls := findClass_of_methodNamed BB.named
  have hlocks := BB.notSynchronized
  clear BB
  subst hsz
  have hD := hD0.self (sz := s.heap.size)
  clear hD0
  generalize hAe : va_A (wCA a cI cZ B R E (td)) s.heap.size = A at hD hZ ⊢
  have hA : ∀ q : Nat, s.heap.size ≤ q → A q := fun q h => by rw [← hAe]; exact Or.inr h
  clear hAe
  have hl := lv_entry ([.ref (a 0), .int (nI (rc))]) (n := 2) (Nat.le_of_ble_eq_true rfl)
  rw [lg_entry_eq]
  generalize (lg_sl ([.ref (a 0), .int (nI (rc))]) ++ List.replicate (2 - (lg_sl ([.ref (a 0), .int (nI (rc))])).length) Slot.unset).toArray = ls at hl ⊢
  have hl : lv_has ls 2 [(0, .ref (a 0)), (1, .int (nI (rc)))] := hl
  generalize hHe : s.heap = H at hP ⊢
  have hS : va_S A s.heap H [] := by rw [← hHe]; exact va_S.rf
  clear hHe
  generalize hLe : ([] : List Loc) = locs at hS ⊢
  clear hLe
  refine lv_aload_n hx hb dX3_requireNotBounced_0 rfl (lv_at hl 0 rfl) ?_
  refine va_get (D := D) (ci := 3) (v := .ref (a 13)) (C := RX3) (T := TX3) (N := 4) hx hb hts (fun w h => List.mem_cons_of_mem _ (List.mem_append_left _ (List.mem_append_left _ (List.mem_append_right _ h)))) hown hK hP 0 rfl rfl 1 (by decide) (hts (.fieldLink RX3 19 "CashAllocator" "receiptBook" "LCashAllocator$ReceiptBook;") (by decide +kernel)) (fun _ h9 => h9) rfl dX3_requireNotBounced_1 ?_
  refine va_get (D := D) (ci := 2) (v := .ref (a 19)) (C := RX2) (T := TX2) (N := 9) hx hb hts (fun w h => List.mem_cons_of_mem _ (List.mem_append_left _ (List.mem_append_right _ h))) hown hK hP 13 rfl rfl 5 (by decide) (hts (.fieldLink RX3 161 "CashAllocator$ReceiptBook" "isBounced" "[Z") (by decide +kernel)) (fun _ h9 => h9) rfl dX3_requireNotBounced_4 ?_
  refine lv_iload_n hx hb dX3_requireNotBounced_7 rfl (lv_at hl 1 rfl) ?_
  refine zbld hx hb hK hP 19 (n := 30) (f := (R 5)) rfl (rc) rfl (by omega) (by decide) dX3_requireNotBounced_8 ?_
  refine lv_if_eq (tgt := 22) hx hb dX3_requireNotBounced_9 (by decide) (fun c9 => ?_) (fun c9 => ?_)
  · -- 9 taken
    exact absurd c9 h
  · -- 9 on
    exact zthrow hx hb hfl (cls := eS) (text := "the receipt has bounced") (ik := 46) (is := 221) (ic := 50) (by decide) (by decide) rfl hown (hts (.classLink RX3 46 eS) (by decide +kernel)) (hts (.initialized eS) (by decide +kernel)) (fun w h => hts w ((fun w h => List.mem_cons_of_mem _ (List.mem_append_right _ h)) w h)) hgS hbS hX hZ hK hP hD hS hl.1 hml dX3_requireNotBounced_12 dX3_requireNotBounced_15 ⟨dX3_requireNotBounced_16, dX3_requireNotBounced_18, dX3_requireNotBounced_21⟩ htb (Nat.le_of_ble_eq_true rfl) (Nat.le_of_ble_eq_true rfl) ⟨Nat.le_of_ble_eq_true rfl, Nat.le_of_ble_eq_true rfl⟩ hlocks (Nat.le_refl _) (Nat.le_refl _)
set_option maxHeartbeats 4000000 in
set_option maxRecDepth 100000 in
theorem x_X3_bill (l : Launch) (hfl : l.stackTraces = false) (D : va_G) (cI cZ : ClassId) (a : Nat → Nat) (sz : Nat) (B : Nat → Nat → Int32) (R : Nat → Nat → Int32) (E : Nat → Nat → Int32) (td : Int32) (n : Nat) (cu : Int32) (am : Int32) (rf : Int32) (rt : Int32) (dy : Int32) (E0 : String) (hB : B 11 0 = nI n) (hn : n ≤ 40) (hk : ¬ billK n cu am rf rt dy = 0) (hE : E0 = exA (billK n cu am rf rt dy)) : vx_Met l yX3_bill wsX3_bill ({ frames := 7, cells := 1, slots := 6, locals := 112 } : Room) (va_Pc [.ref (a 0), .int (cu), .int (am), .int (rf), .int (rt), .int (dy)] (PreX D cI cZ (wCA a cI cZ B R E (td)) sz)) (QNo (va_A (wCA a cI cZ B R E (td)) sz)) (XCw D cI cZ (va_A (wCA a cI cZ B R E (td)) sz) (wCA a cI cZ B R E (td)) E0) 1 6 (va_A (wCA a cI cZ B R E (td)) sz) := by
  refine vx_ofW (cc := cX3_bill) (maxL := 6) (ret := (some .int)) (by decide) rfl ?_
  intro p e s m args below meth c s₁ BB hml htb hv
  obtain ⟨rfl, ⟨hsz, hP, hK, hD0⟩, hX, hZ⟩ := hv
  have hx := BB.exec
  have hb := BB.bytes
  have hr := BB.returns
  have hts := atoms_spec (ws := wsX3_bill) BB.pre
  have hown : s.vm.findClass RX3 = some m.cls := findClass_of_methodNamed BB.named
  have hlocks := BB.notSynchronized
  clear BB
  subst hsz
  have hD := hD0.self (sz := s.heap.size)
  clear hD0
  generalize hAe : va_A (wCA a cI cZ B R E (td)) s.heap.size = A at hD hZ ⊢
  have hA : ∀ q : Nat, s.heap.size ≤ q → A q := fun q h => by rw [← hAe]; exact Or.inr h
  clear hAe
  have hl := lv_entry ([.ref (a 0), .int (cu), .int (am), .int (rf), .int (rt), .int (dy)]) (n := 6) (Nat.le_of_ble_eq_true rfl)
  rw [lg_entry_eq]
  generalize (lg_sl ([.ref (a 0), .int (cu), .int (am), .int (rf), .int (rt), .int (dy)]) ++ List.replicate (6 - (lg_sl ([.ref (a 0), .int (cu), .int (am), .int (rf), .int (rt), .int (dy)])).length) Slot.unset).toArray = ls at hl ⊢
  have hl : lv_has ls 6 [(0, .ref (a 0)), (1, .int (cu)), (2, .int (am)), (3, .int (rf)), (4, .int (rt)), (5, .int (dy))] := hl
  generalize hHe : s.heap = H at hP ⊢
  have hS : va_S A s.heap H [] := by rw [← hHe]; exact va_S.rf
  clear hHe
  generalize hLe : ([] : List Loc) = locs at hS ⊢
  clear hLe
  refine lv_iload_n hx hb dX3_bill_0 rfl (lv_at hl 1 rfl) ?_
  by_cases hx1 : cu < 0 ∨ ¬ cu < 8
  · -- 1 throws
    exact zxS (List.range 26) ⟨hx, hb, hml, hown, hts⟩ (zwNo 26 (by decide) rfl hP hD hS hA) hK hX hZ (x_X3_requireCustomer l hfl D cI cZ a H.size (cu) hx1) (cwS 1 hts gX3_bill_X3_requireCustomer rfl rfl rfl (by decide +kernel) ⟨Nat.le_of_ble_eq_true rfl, Nat.le_of_ble_eq_true rfl⟩) (by decide) rfl rfl hl.1 rfl (Nat.le_of_ble_eq_true rfl) dX3_bill_1 ⟨Nat.le_of_ble_eq_true rfl, Nat.le_of_ble_eq_true rfl⟩ (fun ce q9 H1 locs1 hP hD hS hce hcv hcl => zxo (by rw [hE, billK, if_pos hx1]; rfl) hK htb hlocks (Nat.le_refl _) (Nat.le_refl _) ce q9 H1 locs1 hP hD hS hce hcv hcl)
  · -- 1 on
    refine zcSv (wf := (fun (u : Unit) => (wCA a cI cZ B R E (td)))) (List.range 26) ⟨hx, hb, hml, hown, hts⟩ (zwNo 26 (by decide) rfl hP hD hS hA) hK (c_X3_requireCustomer l D cI cZ a H.size (cu) (n1 hx1) (n2 hx1)) (cwS 1 hts gX3_bill_X3_requireCustomer rfl rfl rfl (by decide +kernel) ⟨Nat.le_of_ble_eq_true rfl, Nat.le_of_ble_eq_true rfl⟩) (by decide) (fun _ => rfl) rfl hl.1 rfl (Nat.le_of_ble_eq_true rfl) dX3_bill_1 ⟨Nat.le_of_ble_eq_true rfl, Nat.le_of_ble_eq_true rfl⟩ (fun u H locs hw hP hD hS => ?_)
    refine lv_iload_n hx hb dX3_bill_4 rfl (lv_at hl 2 rfl) ?_
    refine lv_iconst (v := 1) hx hb dX3_bill_5 (by decide) ?_
    refine lv_ldc (v := 1000000) hx hb hown (hts (.constant RX3 38 (1000000)) (by decide +kernel)) dX3_bill_6 ?_
    by_cases hx8 : am < 1 ∨ ¬ am ≤ 1000000
    · -- 8 throws
      exact zxS (List.range 26) ⟨hx, hb, hml, hown, hts⟩ (zwNo 26 (by decide) rfl hP hD hS hA) hK hX hZ (x_X3_requireWithin l hfl D cI cZ a H.size (am) (1) (1000000) hx8) (cwS 3 hts gX3_bill_X3_requireWithin rfl rfl rfl (by decide +kernel) ⟨Nat.le_of_ble_eq_true rfl, Nat.le_of_ble_eq_true rfl⟩) (by decide) rfl rfl hl.1 rfl (Nat.le_of_ble_eq_true rfl) dX3_bill_8 ⟨Nat.le_of_ble_eq_true rfl, Nat.le_of_ble_eq_true rfl⟩ (fun ce q9 H1 locs1 hP hD hS hce hcv hcl => zxo (by rw [hE, billK, if_neg hx1, if_pos (Or.inl hx8)]; rfl) hK htb hlocks (Nat.le_refl _) (Nat.le_refl _) ce q9 H1 locs1 hP hD hS hce hcv hcl)
    · -- 8 on
      refine zcSv (wf := (fun (u : Unit) => (wCA a cI cZ B R E (td)))) (List.range 26) ⟨hx, hb, hml, hown, hts⟩ (zwNo 26 (by decide) rfl hP hD hS hA) hK (c_X3_requireWithin l D cI cZ a H.size (am) (1) (1000000) (n1 hx8) (n2 hx8)) (cwS 3 hts gX3_bill_X3_requireWithin rfl rfl rfl (by decide +kernel) ⟨Nat.le_of_ble_eq_true rfl, Nat.le_of_ble_eq_true rfl⟩) (by decide) (fun _ => rfl) rfl hl.1 rfl (Nat.le_of_ble_eq_true rfl) dX3_bill_8 ⟨Nat.le_of_ble_eq_true rfl, Nat.le_of_ble_eq_true rfl⟩ (fun u H locs hw hP hD hS => ?_)
      refine lv_iload_n hx hb dX3_bill_11 rfl (lv_at hl 3 rfl) ?_
      refine lv_iconst (v := 1) hx hb dX3_bill_12 (by decide) ?_
      refine lv_sipush (v := 9999) hx hb dX3_bill_13 (by decide) ?_
      by_cases hx16 : rf < 1 ∨ ¬ rf ≤ 9999
      · -- 16 throws
        exact zxS (List.range 26) ⟨hx, hb, hml, hown, hts⟩ (zwNo 26 (by decide) rfl hP hD hS hA) hK hX hZ (x_X3_requireWithin l hfl D cI cZ a H.size (rf) (1) (9999) hx16) (cwS 3 hts gX3_bill_X3_requireWithin rfl rfl rfl (by decide +kernel) ⟨Nat.le_of_ble_eq_true rfl, Nat.le_of_ble_eq_true rfl⟩) (by decide) rfl rfl hl.1 rfl (Nat.le_of_ble_eq_true rfl) dX3_bill_16 ⟨Nat.le_of_ble_eq_true rfl, Nat.le_of_ble_eq_true rfl⟩ (fun ce q9 H1 locs1 hP hD hS hce hcv hcl => zxo (by rw [hE, billK, if_neg hx1, if_pos (Or.inr (Or.inl hx16))]; rfl) hK htb hlocks (Nat.le_refl _) (Nat.le_refl _) ce q9 H1 locs1 hP hD hS hce hcv hcl)
      · -- 16 on
        refine zcSv (wf := (fun (u : Unit) => (wCA a cI cZ B R E (td)))) (List.range 26) ⟨hx, hb, hml, hown, hts⟩ (zwNo 26 (by decide) rfl hP hD hS hA) hK (c_X3_requireWithin l D cI cZ a H.size (rf) (1) (9999) (n1 hx16) (n2 hx16)) (cwS 3 hts gX3_bill_X3_requireWithin rfl rfl rfl (by decide +kernel) ⟨Nat.le_of_ble_eq_true rfl, Nat.le_of_ble_eq_true rfl⟩) (by decide) (fun _ => rfl) rfl hl.1 rfl (Nat.le_of_ble_eq_true rfl) dX3_bill_16 ⟨Nat.le_of_ble_eq_true rfl, Nat.le_of_ble_eq_true rfl⟩ (fun u H locs hw hP hD hS => ?_)
        refine lv_iload hx hb dX3_bill_19 (lv_at hl 4 rfl) ?_
        refine lv_iconst (v := 0) hx hb dX3_bill_21 (by decide) ?_
        refine lv_sipush (v := 10000) hx hb dX3_bill_22 (by decide) ?_
        by_cases hx25 : rt < 0 ∨ ¬ rt ≤ 10000
        · -- 25 throws
          exact zxS (List.range 26) ⟨hx, hb, hml, hown, hts⟩ (zwNo 26 (by decide) rfl hP hD hS hA) hK hX hZ (x_X3_requireWithin l hfl D cI cZ a H.size (rt) (0) (10000) hx25) (cwS 3 hts gX3_bill_X3_requireWithin rfl rfl rfl (by decide +kernel) ⟨Nat.le_of_ble_eq_true rfl, Nat.le_of_ble_eq_true rfl⟩) (by decide) rfl rfl hl.1 rfl (Nat.le_of_ble_eq_true rfl) dX3_bill_25 ⟨Nat.le_of_ble_eq_true rfl, Nat.le_of_ble_eq_true rfl⟩ (fun ce q9 H1 locs1 hP hD hS hce hcv hcl => zxo (by rw [hE, billK, if_neg hx1, if_pos (Or.inr (Or.inr (Or.inl hx25)))]; rfl) hK htb hlocks (Nat.le_refl _) (Nat.le_refl _) ce q9 H1 locs1 hP hD hS hce hcv hcl)
        · -- 25 on
          refine zcSv (wf := (fun (u : Unit) => (wCA a cI cZ B R E (td)))) (List.range 26) ⟨hx, hb, hml, hown, hts⟩ (zwNo 26 (by decide) rfl hP hD hS hA) hK (c_X3_requireWithin l D cI cZ a H.size (rt) (0) (10000) (n1 hx25) (n2 hx25)) (cwS 3 hts gX3_bill_X3_requireWithin rfl rfl rfl (by decide +kernel) ⟨Nat.le_of_ble_eq_true rfl, Nat.le_of_ble_eq_true rfl⟩) (by decide) (fun _ => rfl) rfl hl.1 rfl (Nat.le_of_ble_eq_true rfl) dX3_bill_25 ⟨Nat.le_of_ble_eq_true rfl, Nat.le_of_ble_eq_true rfl⟩ (fun u H locs hw hP hD hS => ?_)
          refine lv_iload hx hb dX3_bill_28 (lv_at hl 5 rfl) ?_
          refine lv_iconst (v := 0) hx hb dX3_bill_30 (by decide) ?_
          refine lv_bipush (v := 90) hx hb dX3_bill_31 (by decide) ?_
          by_cases hx33 : dy < 0 ∨ ¬ dy ≤ 90
          · -- 33 throws
            exact zxS (List.range 26) ⟨hx, hb, hml, hown, hts⟩ (zwNo 26 (by decide) rfl hP hD hS hA) hK hX hZ (x_X3_requireWithin l hfl D cI cZ a H.size (dy) (0) (90) hx33) (cwS 3 hts gX3_bill_X3_requireWithin rfl rfl rfl (by decide +kernel) ⟨Nat.le_of_ble_eq_true rfl, Nat.le_of_ble_eq_true rfl⟩) (by decide) rfl rfl hl.1 rfl (Nat.le_of_ble_eq_true rfl) dX3_bill_33 ⟨Nat.le_of_ble_eq_true rfl, Nat.le_of_ble_eq_true rfl⟩ (fun ce q9 H1 locs1 hP hD hS hce hcv hcl => zxo (by rw [hE, billK, if_neg hx1, if_pos (Or.inr (Or.inr (Or.inr hx33)))]; rfl) hK htb hlocks (Nat.le_refl _) (Nat.le_refl _) ce q9 H1 locs1 hP hD hS hce hcv hcl)
          · -- 33 on
            refine zcSv (wf := (fun (u : Unit) => (wCA a cI cZ B R E (td)))) (List.range 26) ⟨hx, hb, hml, hown, hts⟩ (zwNo 26 (by decide) rfl hP hD hS hA) hK (c_X3_requireWithin l D cI cZ a H.size (dy) (0) (90) (n1 hx33) (n2 hx33)) (cwS 3 hts gX3_bill_X3_requireWithin rfl rfl rfl (by decide +kernel) ⟨Nat.le_of_ble_eq_true rfl, Nat.le_of_ble_eq_true rfl⟩) (by decide) (fun _ => rfl) rfl hl.1 rfl (Nat.le_of_ble_eq_true rfl) dX3_bill_33 ⟨Nat.le_of_ble_eq_true rfl, Nat.le_of_ble_eq_true rfl⟩ (fun u H locs hw hP hD hS => ?_)
            refine lv_aload_n hx hb dX3_bill_36 rfl (lv_at hl 0 rfl) ?_
            refine va_get (D := D) (ci := 3) (v := .ref (a 1)) (C := RX3) (T := TX3) (N := 4) hx hb hts (fun w h => List.mem_cons_of_mem _ (List.mem_append_left _ (List.mem_append_left _ (List.mem_append_left _ (List.mem_append_left _ (List.mem_append_right _ h)))))) hown hK hP 0 rfl rfl 0 (by decide) (hts (.fieldLink RX3 10 "CashAllocator" "billBook" "LCashAllocator$BillBook;") (by decide +kernel)) (fun _ h9 => h9) rfl dX3_bill_37 ?_
            refine va_get (D := D) (ci := 0) (v := .int (nI (n))) (C := RX0) (T := TX0) (N := 12) hx hb hts (fun w h => List.mem_cons_of_mem _ (List.mem_append_left _ (List.mem_append_left _ (List.mem_append_left _ (List.mem_append_right _ h))))) hown hK hP 1 rfl rfl 11 (by decide) (hts (.fieldLink RX3 43 "CashAllocator$BillBook" "count" "I") (by decide +kernel)) (fun _ h9 => h9) (congrArg (fun z => some (Value.int z)) hB) dX3_bill_40 ?_
            refine lv_bipush (v := nI (40)) hx hb dX3_bill_43 (by decide) ?_
            refine lv_icmp_lt (tgt := 58) hx hb dX3_bill_45 (by decide) (fun c45 => ?_) (fun c45 => ?_)
            · -- 45 taken
              rw [nI_ltI (by omega) (by omega)] at c45
              exact absurd (by rw [billK, if_neg hx1, if_neg (or4n hx8 hx16 hx25 hx33), if_pos c45]) hk
            · -- 45 on
              rw [nI_ltI (by omega) (by omega)] at c45
              exact zthrow hx hb hfl (cls := eS) (text := "no more bills can be made") (ik := 46) (is := 48) (ic := 50) (by decide) (by decide) (by rw [hE, billK, if_neg hx1, if_neg (or4n hx8 hx16 hx25 hx33), if_neg c45]; rfl) hown (hts (.classLink RX3 46 eS) (by decide +kernel)) (hts (.initialized eS) (by decide +kernel)) (fun w h => hts w ((fun w h => List.mem_cons_of_mem _ (List.mem_append_left _ (List.mem_append_left _ (List.mem_append_right _ h)))) w h)) hgS hbS hX hZ hK hP hD hS hl.1 hml dX3_bill_48 dX3_bill_51 ⟨dX3_bill_52, dX3_bill_54, dX3_bill_57⟩ htb (Nat.le_of_ble_eq_true rfl) (Nat.le_of_ble_eq_true rfl) ⟨Nat.le_of_ble_eq_true rfl, Nat.le_of_ble_eq_true rfl⟩ hlocks (Nat.le_refl _) (Nat.le_refl _)
set_option maxHeartbeats 4000000 in
set_option maxRecDepth 100000 in
theorem x_X3_receive (l : Launch) (hfl : l.stackTraces = false) (D : va_G) (cI cZ : ClassId) (a : Nat → Nat) (sz : Nat) (B : Nat → Nat → Int32) (R : Nat → Nat → Int32) (E : Nat → Nat → Int32) (td : Int32) (q : Nat) (cu : Int32) (am : Int32) (rf : Int32) (E0 : String) (hR : R 8 0 = nI q) (hq : q ≤ 30) (hk : ¬ rcvK q cu am rf = 0) (hE : E0 = exA (rcvK q cu am rf)) : vx_Met l yX3_receive wsX3_receive ({ frames := 7, cells := 1, slots := 6, locals := 136 } : Room) (va_Pc [.ref (a 0), .int (cu), .int (am), .int (rf)] (PreX D cI cZ (wCA a cI cZ B R E (td)) sz)) (QNo (va_A (wCA a cI cZ B R E (td)) sz)) (XCw D cI cZ (va_A (wCA a cI cZ B R E (td)) sz) (wCA a cI cZ B R E (td)) E0) 1 6 (va_A (wCA a cI cZ B R E (td)) sz) := by
  refine vx_ofW (cc := cX3_receive) (maxL := 5) (ret := (some .int)) (by decide) rfl ?_
  intro p e s m args below meth c s₁ BB hml htb hv
  obtain ⟨rfl, ⟨hsz, hP, hK, hD0⟩, hX, hZ⟩ := hv
  have hx := BB.exec
  have hb := BB.bytes
  have hr := BB.returns
  have hts := atoms_spec (ws := wsX3_receive) BB.pre
  have hown : s.vm.findClass RX3 = some m.cls := findClass_of_methodNamed BB.named
  have hlocks := BB.notSynchronized
  clear BB
  subst hsz
  have hD := hD0.self (sz := s.heap.size)
  clear hD0
  generalize hAe : va_A (wCA a cI cZ B R E (td)) s.heap.size = A at hD hZ ⊢
  have hA : ∀ q : Nat, s.heap.size ≤ q → A q := fun q h => by rw [← hAe]; exact Or.inr h
  clear hAe
  have hl := lv_entry ([.ref (a 0), .int (cu), .int (am), .int (rf)]) (n := 5) (Nat.le_of_ble_eq_true rfl)
  rw [lg_entry_eq]
  generalize (lg_sl ([.ref (a 0), .int (cu), .int (am), .int (rf)]) ++ List.replicate (5 - (lg_sl ([.ref (a 0), .int (cu), .int (am), .int (rf)])).length) Slot.unset).toArray = ls at hl ⊢
  have hl : lv_has ls 5 [(0, .ref (a 0)), (1, .int (cu)), (2, .int (am)), (3, .int (rf))] := hl
  generalize hHe : s.heap = H at hP ⊢
  have hS : va_S A s.heap H [] := by rw [← hHe]; exact va_S.rf
  clear hHe
  generalize hLe : ([] : List Loc) = locs at hS ⊢
  clear hLe
  refine lv_iload_n hx hb dX3_receive_0 rfl (lv_at hl 1 rfl) ?_
  refine lv_iconst (v := (-1)) hx hb dX3_receive_1 (by decide) ?_
  refine lv_icmp_eq (tgt := 9) hx hb dX3_receive_2 (by decide) (fun c2 => ?_) (fun c2 => ?_)
  · -- 2 taken
    have hcu : ¬ (¬ cu = -1 ∧ (cu < 0 ∨ ¬ cu < 8)) := fun z => z.1 c2
    refine lv_iload_n hx hb dX3_receive_9 rfl (lv_at hl 2 rfl) ?_
    refine lv_iconst (v := 1) hx hb dX3_receive_10 (by decide) ?_
    refine lv_ldc (v := 1000000) hx hb hown (hts (.constant RX3 38 (1000000)) (by decide +kernel)) dX3_receive_11 ?_
    by_cases hx13 : am < 1 ∨ ¬ am ≤ 1000000
    · -- 13 throws
      exact zxS (List.range 26) ⟨hx, hb, hml, hown, hts⟩ (zwNo 26 (by decide) rfl hP hD hS hA) hK hX hZ (x_X3_requireWithin l hfl D cI cZ a H.size (am) (1) (1000000) hx13) (cwS 3 hts gX3_receive_X3_requireWithin rfl rfl rfl (by decide +kernel) ⟨Nat.le_of_ble_eq_true rfl, Nat.le_of_ble_eq_true rfl⟩) (by decide) rfl rfl hl.1 rfl (Nat.le_of_ble_eq_true rfl) dX3_receive_13 ⟨Nat.le_of_ble_eq_true rfl, Nat.le_of_ble_eq_true rfl⟩ (fun ce q9 H1 locs1 hP hD hS hce hcv hcl => zxo (by rw [hE, rcvK, if_neg hcu, if_pos (Or.inl hx13)]; rfl) hK htb hlocks (Nat.le_refl _) (Nat.le_refl _) ce q9 H1 locs1 hP hD hS hce hcv hcl)
    · -- 13 on
      refine zcSv (wf := (fun (u : Unit) => (wCA a cI cZ B R E (td)))) (List.range 26) ⟨hx, hb, hml, hown, hts⟩ (zwNo 26 (by decide) rfl hP hD hS hA) hK (c_X3_requireWithin l D cI cZ a H.size (am) (1) (1000000) (n1 hx13) (n2 hx13)) (cwS 3 hts gX3_receive_X3_requireWithin rfl rfl rfl (by decide +kernel) ⟨Nat.le_of_ble_eq_true rfl, Nat.le_of_ble_eq_true rfl⟩) (by decide) (fun _ => rfl) rfl hl.1 rfl (Nat.le_of_ble_eq_true rfl) dX3_receive_13 ⟨Nat.le_of_ble_eq_true rfl, Nat.le_of_ble_eq_true rfl⟩ (fun u H locs hw hP hD hS => ?_)
      refine lv_iload_n hx hb dX3_receive_16 rfl (lv_at hl 3 rfl) ?_
      refine lv_iconst (v := 0) hx hb dX3_receive_17 (by decide) ?_
      refine lv_sipush (v := 9999) hx hb dX3_receive_18 (by decide) ?_
      by_cases hx21 : rf < 0 ∨ ¬ rf ≤ 9999
      · -- 21 throws
        exact zxS (List.range 26) ⟨hx, hb, hml, hown, hts⟩ (zwNo 26 (by decide) rfl hP hD hS hA) hK hX hZ (x_X3_requireWithin l hfl D cI cZ a H.size (rf) (0) (9999) hx21) (cwS 3 hts gX3_receive_X3_requireWithin rfl rfl rfl (by decide +kernel) ⟨Nat.le_of_ble_eq_true rfl, Nat.le_of_ble_eq_true rfl⟩) (by decide) rfl rfl hl.1 rfl (Nat.le_of_ble_eq_true rfl) dX3_receive_21 ⟨Nat.le_of_ble_eq_true rfl, Nat.le_of_ble_eq_true rfl⟩ (fun ce q9 H1 locs1 hP hD hS hce hcv hcl => zxo (by rw [hE, rcvK, if_neg hcu, if_pos (Or.inr hx21)]; rfl) hK htb hlocks (Nat.le_refl _) (Nat.le_refl _) ce q9 H1 locs1 hP hD hS hce hcv hcl)
      · -- 21 on
        refine zcSv (wf := (fun (u : Unit) => (wCA a cI cZ B R E (td)))) (List.range 26) ⟨hx, hb, hml, hown, hts⟩ (zwNo 26 (by decide) rfl hP hD hS hA) hK (c_X3_requireWithin l D cI cZ a H.size (rf) (0) (9999) (n1 hx21) (n2 hx21)) (cwS 3 hts gX3_receive_X3_requireWithin rfl rfl rfl (by decide +kernel) ⟨Nat.le_of_ble_eq_true rfl, Nat.le_of_ble_eq_true rfl⟩) (by decide) (fun _ => rfl) rfl hl.1 rfl (Nat.le_of_ble_eq_true rfl) dX3_receive_21 ⟨Nat.le_of_ble_eq_true rfl, Nat.le_of_ble_eq_true rfl⟩ (fun u H locs hw hP hD hS => ?_)
        refine lv_aload_n hx hb dX3_receive_24 rfl (lv_at hl 0 rfl) ?_
        refine va_get (D := D) (ci := 3) (v := .ref (a 13)) (C := RX3) (T := TX3) (N := 4) hx hb hts (fun w h => List.mem_cons_of_mem _ (List.mem_append_left _ (List.mem_append_left _ (List.mem_append_left _ (List.mem_append_left _ (List.mem_append_left _ (List.mem_append_left _ (List.mem_append_right _ h)))))))) hown hK hP 0 rfl rfl 1 (by decide) (hts (.fieldLink RX3 19 "CashAllocator" "receiptBook" "LCashAllocator$ReceiptBook;") (by decide +kernel)) (fun _ h9 => h9) rfl dX3_receive_25 ?_
        refine va_get (D := D) (ci := 2) (v := .int (nI (q))) (C := RX2) (T := TX2) (N := 9) hx hb hts (fun w h => List.mem_cons_of_mem _ (List.mem_append_left _ (List.mem_append_left _ (List.mem_append_left _ (List.mem_append_left _ (List.mem_append_left _ (List.mem_append_right _ h))))))) hown hK hP 13 rfl rfl 8 (by decide) (hts (.fieldLink RX3 61 "CashAllocator$ReceiptBook" "count" "I") (by decide +kernel)) (fun _ h9 => h9) (congrArg (fun z => some (Value.int z)) hR) dX3_receive_28 ?_
        refine lv_bipush (v := nI (30)) hx hb dX3_receive_31 (by decide) ?_
        refine lv_icmp_lt (tgt := 46) hx hb dX3_receive_33 (by decide) (fun c33 => ?_) (fun c33 => ?_)
        · -- 33 taken
          rw [nI_ltI (by omega) (by omega)] at c33
          exact absurd (by rw [rcvK, if_neg hcu, if_neg (not_or.mpr ⟨hx13, hx21⟩), if_pos c33]) hk
        · -- 33 on
          rw [nI_ltI (by omega) (by omega)] at c33
          exact zthrow hx hb hfl (cls := eS) (text := "no more receipts can come") (ik := 46) (is := 62) (ic := 50) (by decide) (by decide) (by rw [hE, rcvK, if_neg hcu, if_neg (not_or.mpr ⟨hx13, hx21⟩), if_neg c33]; rfl) hown (hts (.classLink RX3 46 eS) (by decide +kernel)) (hts (.initialized eS) (by decide +kernel)) (fun w h => hts w ((fun w h => List.mem_cons_of_mem _ (List.mem_append_left _ (List.mem_append_left _ (List.mem_append_right _ h)))) w h)) hgS hbS hX hZ hK hP hD hS hl.1 hml dX3_receive_36 dX3_receive_39 ⟨dX3_receive_40, dX3_receive_42, dX3_receive_45⟩ htb (Nat.le_of_ble_eq_true rfl) (Nat.le_of_ble_eq_true rfl) ⟨Nat.le_of_ble_eq_true rfl, Nat.le_of_ble_eq_true rfl⟩ hlocks (Nat.le_refl _) (Nat.le_refl _)
  · -- 2 on
    refine lv_iload_n hx hb dX3_receive_5 rfl (lv_at hl 1 rfl) ?_
    by_cases hx6 : cu < 0 ∨ ¬ cu < 8
    · -- 6 throws
      exact zxS (List.range 26) ⟨hx, hb, hml, hown, hts⟩ (zwNo 26 (by decide) rfl hP hD hS hA) hK hX hZ (x_X3_requireCustomer l hfl D cI cZ a H.size (cu) hx6) (cwS 1 hts gX3_receive_X3_requireCustomer rfl rfl rfl (by decide +kernel) ⟨Nat.le_of_ble_eq_true rfl, Nat.le_of_ble_eq_true rfl⟩) (by decide) rfl rfl hl.1 rfl (Nat.le_of_ble_eq_true rfl) dX3_receive_6 ⟨Nat.le_of_ble_eq_true rfl, Nat.le_of_ble_eq_true rfl⟩ (fun ce q9 H1 locs1 hP hD hS hce hcv hcl => zxo (by rw [hE, rcvK, if_pos ⟨c2, hx6⟩]; rfl) hK htb hlocks (Nat.le_refl _) (Nat.le_refl _) ce q9 H1 locs1 hP hD hS hce hcv hcl)
    · -- 6 on
      have hcu : ¬ (¬ cu = -1 ∧ (cu < 0 ∨ ¬ cu < 8)) := fun z => hx6 z.2
      refine zcSv (wf := (fun (u : Unit) => (wCA a cI cZ B R E (td)))) (List.range 26) ⟨hx, hb, hml, hown, hts⟩ (zwNo 26 (by decide) rfl hP hD hS hA) hK (c_X3_requireCustomer l D cI cZ a H.size (cu) (n1 hx6) (n2 hx6)) (cwS 1 hts gX3_receive_X3_requireCustomer rfl rfl rfl (by decide +kernel) ⟨Nat.le_of_ble_eq_true rfl, Nat.le_of_ble_eq_true rfl⟩) (by decide) (fun _ => rfl) rfl hl.1 rfl (Nat.le_of_ble_eq_true rfl) dX3_receive_6 ⟨Nat.le_of_ble_eq_true rfl, Nat.le_of_ble_eq_true rfl⟩ (fun u H locs hw hP hD hS => ?_)
      refine lv_iload_n hx hb dX3_receive_9 rfl (lv_at hl 2 rfl) ?_
      refine lv_iconst (v := 1) hx hb dX3_receive_10 (by decide) ?_
      refine lv_ldc (v := 1000000) hx hb hown (hts (.constant RX3 38 (1000000)) (by decide +kernel)) dX3_receive_11 ?_
      by_cases hx13 : am < 1 ∨ ¬ am ≤ 1000000
      · -- 13 throws
        exact zxS (List.range 26) ⟨hx, hb, hml, hown, hts⟩ (zwNo 26 (by decide) rfl hP hD hS hA) hK hX hZ (x_X3_requireWithin l hfl D cI cZ a H.size (am) (1) (1000000) hx13) (cwS 3 hts gX3_receive_X3_requireWithin rfl rfl rfl (by decide +kernel) ⟨Nat.le_of_ble_eq_true rfl, Nat.le_of_ble_eq_true rfl⟩) (by decide) rfl rfl hl.1 rfl (Nat.le_of_ble_eq_true rfl) dX3_receive_13 ⟨Nat.le_of_ble_eq_true rfl, Nat.le_of_ble_eq_true rfl⟩ (fun ce q9 H1 locs1 hP hD hS hce hcv hcl => zxo (by rw [hE, rcvK, if_neg hcu, if_pos (Or.inl hx13)]; rfl) hK htb hlocks (Nat.le_refl _) (Nat.le_refl _) ce q9 H1 locs1 hP hD hS hce hcv hcl)
      · -- 13 on
        refine zcSv (wf := (fun (u : Unit) => (wCA a cI cZ B R E (td)))) (List.range 26) ⟨hx, hb, hml, hown, hts⟩ (zwNo 26 (by decide) rfl hP hD hS hA) hK (c_X3_requireWithin l D cI cZ a H.size (am) (1) (1000000) (n1 hx13) (n2 hx13)) (cwS 3 hts gX3_receive_X3_requireWithin rfl rfl rfl (by decide +kernel) ⟨Nat.le_of_ble_eq_true rfl, Nat.le_of_ble_eq_true rfl⟩) (by decide) (fun _ => rfl) rfl hl.1 rfl (Nat.le_of_ble_eq_true rfl) dX3_receive_13 ⟨Nat.le_of_ble_eq_true rfl, Nat.le_of_ble_eq_true rfl⟩ (fun u H locs hw hP hD hS => ?_)
        refine lv_iload_n hx hb dX3_receive_16 rfl (lv_at hl 3 rfl) ?_
        refine lv_iconst (v := 0) hx hb dX3_receive_17 (by decide) ?_
        refine lv_sipush (v := 9999) hx hb dX3_receive_18 (by decide) ?_
        by_cases hx21 : rf < 0 ∨ ¬ rf ≤ 9999
        · -- 21 throws
          exact zxS (List.range 26) ⟨hx, hb, hml, hown, hts⟩ (zwNo 26 (by decide) rfl hP hD hS hA) hK hX hZ (x_X3_requireWithin l hfl D cI cZ a H.size (rf) (0) (9999) hx21) (cwS 3 hts gX3_receive_X3_requireWithin rfl rfl rfl (by decide +kernel) ⟨Nat.le_of_ble_eq_true rfl, Nat.le_of_ble_eq_true rfl⟩) (by decide) rfl rfl hl.1 rfl (Nat.le_of_ble_eq_true rfl) dX3_receive_21 ⟨Nat.le_of_ble_eq_true rfl, Nat.le_of_ble_eq_true rfl⟩ (fun ce q9 H1 locs1 hP hD hS hce hcv hcl => zxo (by rw [hE, rcvK, if_neg hcu, if_pos (Or.inr hx21)]; rfl) hK htb hlocks (Nat.le_refl _) (Nat.le_refl _) ce q9 H1 locs1 hP hD hS hce hcv hcl)
        · -- 21 on
          refine zcSv (wf := (fun (u : Unit) => (wCA a cI cZ B R E (td)))) (List.range 26) ⟨hx, hb, hml, hown, hts⟩ (zwNo 26 (by decide) rfl hP hD hS hA) hK (c_X3_requireWithin l D cI cZ a H.size (rf) (0) (9999) (n1 hx21) (n2 hx21)) (cwS 3 hts gX3_receive_X3_requireWithin rfl rfl rfl (by decide +kernel) ⟨Nat.le_of_ble_eq_true rfl, Nat.le_of_ble_eq_true rfl⟩) (by decide) (fun _ => rfl) rfl hl.1 rfl (Nat.le_of_ble_eq_true rfl) dX3_receive_21 ⟨Nat.le_of_ble_eq_true rfl, Nat.le_of_ble_eq_true rfl⟩ (fun u H locs hw hP hD hS => ?_)
          refine lv_aload_n hx hb dX3_receive_24 rfl (lv_at hl 0 rfl) ?_
          refine va_get (D := D) (ci := 3) (v := .ref (a 13)) (C := RX3) (T := TX3) (N := 4) hx hb hts (fun w h => List.mem_cons_of_mem _ (List.mem_append_left _ (List.mem_append_left _ (List.mem_append_left _ (List.mem_append_left _ (List.mem_append_left _ (List.mem_append_left _ (List.mem_append_right _ h)))))))) hown hK hP 0 rfl rfl 1 (by decide) (hts (.fieldLink RX3 19 "CashAllocator" "receiptBook" "LCashAllocator$ReceiptBook;") (by decide +kernel)) (fun _ h9 => h9) rfl dX3_receive_25 ?_
          refine va_get (D := D) (ci := 2) (v := .int (nI (q))) (C := RX2) (T := TX2) (N := 9) hx hb hts (fun w h => List.mem_cons_of_mem _ (List.mem_append_left _ (List.mem_append_left _ (List.mem_append_left _ (List.mem_append_left _ (List.mem_append_left _ (List.mem_append_right _ h))))))) hown hK hP 13 rfl rfl 8 (by decide) (hts (.fieldLink RX3 61 "CashAllocator$ReceiptBook" "count" "I") (by decide +kernel)) (fun _ h9 => h9) (congrArg (fun z => some (Value.int z)) hR) dX3_receive_28 ?_
          refine lv_bipush (v := nI (30)) hx hb dX3_receive_31 (by decide) ?_
          refine lv_icmp_lt (tgt := 46) hx hb dX3_receive_33 (by decide) (fun c33 => ?_) (fun c33 => ?_)
          · -- 33 taken
            rw [nI_ltI (by omega) (by omega)] at c33
            exact absurd (by rw [rcvK, if_neg hcu, if_neg (not_or.mpr ⟨hx13, hx21⟩), if_pos c33]) hk
          · -- 33 on
            rw [nI_ltI (by omega) (by omega)] at c33
            exact zthrow hx hb hfl (cls := eS) (text := "no more receipts can come") (ik := 46) (is := 62) (ic := 50) (by decide) (by decide) (by rw [hE, rcvK, if_neg hcu, if_neg (not_or.mpr ⟨hx13, hx21⟩), if_neg c33]; rfl) hown (hts (.classLink RX3 46 eS) (by decide +kernel)) (hts (.initialized eS) (by decide +kernel)) (fun w h => hts w ((fun w h => List.mem_cons_of_mem _ (List.mem_append_left _ (List.mem_append_left _ (List.mem_append_right _ h)))) w h)) hgS hbS hX hZ hK hP hD hS hl.1 hml dX3_receive_36 dX3_receive_39 ⟨dX3_receive_40, dX3_receive_42, dX3_receive_45⟩ htb (Nat.le_of_ble_eq_true rfl) (Nat.le_of_ble_eq_true rfl) ⟨Nat.le_of_ble_eq_true rfl, Nat.le_of_ble_eq_true rfl⟩ hlocks (Nat.le_refl _) (Nat.le_refl _)
set_option maxHeartbeats 4000000 in
set_option maxRecDepth 100000 in
theorem x_X3_assign (l : Launch) (hfl : l.stackTraces = false) (D : va_G) (cI cZ : ClassId) (a : Nat → Nat) (sz : Nat) (B : Nat → Nat → Int32) (R : Nat → Nat → Int32) (E : Nat → Nat → Int32) (td : Int32) (q : Nat) (vx : Int32) (cu : Int32) (E0 : String) (hR : R 8 0 = nI q) (hq : q ≤ 30) (hk : ¬ asgK R vx cu = 0) (hE : E0 = exB (asgK R vx cu)) : vx_Met l yX3_assign wsX3_assign ({ frames := 7, cells := 1, slots := 6, locals := 136 } : Room) (va_Pc [.ref (a 0), .int (vx), .int (cu)] (PreX D cI cZ (wCA a cI cZ B R E (td)) sz)) (QNo (va_A (wCA a cI cZ B R E (td)) sz)) (XCw D cI cZ (va_A (wCA a cI cZ B R E (td)) sz) (wCA a cI cZ B R E (td)) E0) 1 6 (va_A (wCA a cI cZ B R E (td)) sz) := by
  refine vx_ofW (cc := cX3_assign) (maxL := 3) (ret := (some .int)) (by decide) rfl ?_
  intro p e s m args below meth c s₁ BB hml htb hv
  obtain ⟨rfl, ⟨hsz, hP, hK, hD0⟩, hX, hZ⟩ := hv
  have hx := BB.exec
  have hb := BB.bytes
  have hr := BB.returns
  have hts := atoms_spec (ws := wsX3_assign) BB.pre
  have hown : s.vm.findClass RX3 = some m.cls := findClass_of_methodNamed BB.named
  have hlocks := BB.notSynchronized
  clear BB
  subst hsz
  have hD := hD0.self (sz := s.heap.size)
  clear hD0
  generalize hAe : va_A (wCA a cI cZ B R E (td)) s.heap.size = A at hD hZ ⊢
  have hA : ∀ q : Nat, s.heap.size ≤ q → A q := fun q h => by rw [← hAe]; exact Or.inr h
  clear hAe
  have hl := lv_entry ([.ref (a 0), .int (vx), .int (cu)]) (n := 3) (Nat.le_of_ble_eq_true rfl)
  rw [lg_entry_eq]
  generalize (lg_sl ([.ref (a 0), .int (vx), .int (cu)]) ++ List.replicate (3 - (lg_sl ([.ref (a 0), .int (vx), .int (cu)])).length) Slot.unset).toArray = ls at hl ⊢
  have hl : lv_has ls 3 [(0, .ref (a 0)), (1, .int (vx)), (2, .int (cu))] := hl
  generalize hHe : s.heap = H at hP ⊢
  have hS : va_S A s.heap H [] := by rw [← hHe]; exact va_S.rf
  clear hHe
  generalize hLe : ([] : List Loc) = locs at hS ⊢
  clear hLe
  refine lv_aload_n hx hb dX3_assign_0 rfl (lv_at hl 0 rfl) ?_
  refine lv_iload_n hx hb dX3_assign_1 rfl (lv_at hl 1 rfl) ?_
  by_cases hx2 : vx < 0 ∨ ¬ vx < R 8 0
  · -- 2 throws
    exact zxV (ci := 3) (q0 := 0) (List.range 26) ⟨hx, hb, hml, hown, hts⟩ (zwAll 26 (by decide) rfl hP hD hS hA) hK hX hZ (x_X3_requireReceipt l hfl D cI cZ a H.size (B) (R) (E) (td) (vx) hx2) (cwV 1 hts gX3_assign_X3_requireReceipt rfl rfl rfl (by decide +kernel) ⟨Nat.le_of_ble_eq_true rfl, Nat.le_of_ble_eq_true rfl⟩) rfl rfl (by decide) rfl rfl hl.1 rfl (Nat.le_of_ble_eq_true rfl) dX3_assign_2 ⟨Nat.le_of_ble_eq_true rfl, Nat.le_of_ble_eq_true rfl⟩ (fun ce q9 H1 locs1 hP hD hS hce hcv hcl => zxo (by rw [hE, asgK, if_pos (Or.inl hx2)]; rfl) hK htb hlocks (Nat.le_refl _) (Nat.le_refl _) ce q9 H1 locs1 hP hD hS hce hcv hcl)
  · -- 2 on
    refine zcVv (ci := 3) (q0 := 0) (wf := (fun (u : Unit) => (wCA a cI cZ B R E (td)))) (List.range 26) ⟨hx, hb, hml, hown, hts⟩ (zwAll 26 (by decide) rfl hP hD hS hA) hK (c_X3_requireReceipt l D cI cZ a H.size (B) (R) (E) (td) (vx) (n1 hx2) (n2 hx2)) (cwV 1 hts gX3_assign_X3_requireReceipt rfl rfl rfl (by decide +kernel) ⟨Nat.le_of_ble_eq_true rfl, Nat.le_of_ble_eq_true rfl⟩) rfl rfl (by decide) (fun _ => rfl) rfl hl.1 rfl (Nat.le_of_ble_eq_true rfl) dX3_assign_2 ⟨Nat.le_of_ble_eq_true rfl, Nat.le_of_ble_eq_true rfl⟩ (fun u H locs hw hP hD hS => ?_)
    obtain ⟨rc, hrq, ej⟩ := ix_of (n := q) (by omega) (n1 hx2) (by rw [← hR]; exact n2 hx2)
    subst ej
    have hcl : (nI rc).toNatClampNeg = rc := nI_clamp (by omega)
    rw [asgK, hcl] at hE hk
    refine lv_iload_n hx hb dX3_assign_5 rfl (lv_at hl 2 rfl) ?_
    by_cases hx6 : cu < 0 ∨ ¬ cu < 8
    · -- 6 throws
      exact zxS (List.range 26) ⟨hx, hb, hml, hown, hts⟩ (zwNo 26 (by decide) rfl hP hD hS hA) hK hX hZ (x_X3_requireCustomer l hfl D cI cZ a H.size (cu) hx6) (cwS 1 hts gX3_assign_X3_requireCustomer rfl rfl rfl (by decide +kernel) ⟨Nat.le_of_ble_eq_true rfl, Nat.le_of_ble_eq_true rfl⟩) (by decide) rfl rfl hl.1 rfl (Nat.le_of_ble_eq_true rfl) dX3_assign_6 ⟨Nat.le_of_ble_eq_true rfl, Nat.le_of_ble_eq_true rfl⟩ (fun ce q9 H1 locs1 hP hD hS hce hcv hcl => zxo (by rw [hE, if_pos (Or.inr hx6)]; rfl) hK htb hlocks (Nat.le_refl _) (Nat.le_refl _) ce q9 H1 locs1 hP hD hS hce hcv hcl)
    · -- 6 on
      refine zcSv (wf := (fun (u : Unit) => (wCA a cI cZ B R E (td)))) (List.range 26) ⟨hx, hb, hml, hown, hts⟩ (zwNo 26 (by decide) rfl hP hD hS hA) hK (c_X3_requireCustomer l D cI cZ a H.size (cu) (n1 hx6) (n2 hx6)) (cwS 1 hts gX3_assign_X3_requireCustomer rfl rfl rfl (by decide +kernel) ⟨Nat.le_of_ble_eq_true rfl, Nat.le_of_ble_eq_true rfl⟩) (by decide) (fun _ => rfl) rfl hl.1 rfl (Nat.le_of_ble_eq_true rfl) dX3_assign_6 ⟨Nat.le_of_ble_eq_true rfl, Nat.le_of_ble_eq_true rfl⟩ (fun u H locs hw hP hD hS => ?_)
      refine lv_aload_n hx hb dX3_assign_9 rfl (lv_at hl 0 rfl) ?_
      refine lv_iload_n hx hb dX3_assign_10 rfl (lv_at hl 1 rfl) ?_
      by_cases hx11 : ¬ R 5 rc = 0
      · -- 11 throws
        exact zxV (ci := 3) (q0 := 0) (List.range 26) ⟨hx, hb, hml, hown, hts⟩ (zwAll 26 (by decide) rfl hP hD hS hA) hK hX hZ (x_X3_requireNotBounced l hfl D cI cZ a H.size (B) (R) (E) (td) (rc) (by first | assumption | omega) hx11) (cwV 1 hts gX3_assign_X3_requireNotBounced rfl rfl rfl (by decide +kernel) ⟨Nat.le_of_ble_eq_true rfl, Nat.le_of_ble_eq_true rfl⟩) rfl rfl (by decide) rfl rfl hl.1 rfl (Nat.le_of_ble_eq_true rfl) dX3_assign_11 ⟨Nat.le_of_ble_eq_true rfl, Nat.le_of_ble_eq_true rfl⟩ (fun ce q9 H1 locs1 hP hD hS hce hcv hcl => zxo (by rw [hE, if_neg (not_or.mpr ⟨hx2, hx6⟩), if_pos (Or.inl hx11)]; rfl) hK htb hlocks (Nat.le_refl _) (Nat.le_refl _) ce q9 H1 locs1 hP hD hS hce hcv hcl)
      · -- 11 on
        refine zcVv (ci := 3) (q0 := 0) (wf := (fun (u : Unit) => (wCA a cI cZ B R E (td)))) (List.range 26) ⟨hx, hb, hml, hown, hts⟩ (zwAll 26 (by decide) rfl hP hD hS hA) hK (c_X3_requireNotBounced l D cI cZ a H.size (B) (R) (E) (td) (rc) (by first | assumption | omega) (Classical.not_not.mp hx11)) (cwV 1 hts gX3_assign_X3_requireNotBounced rfl rfl rfl (by decide +kernel) ⟨Nat.le_of_ble_eq_true rfl, Nat.le_of_ble_eq_true rfl⟩) rfl rfl (by decide) (fun _ => rfl) rfl hl.1 rfl (Nat.le_of_ble_eq_true rfl) dX3_assign_11 ⟨Nat.le_of_ble_eq_true rfl, Nat.le_of_ble_eq_true rfl⟩ (fun u H locs hw hP hD hS => ?_)
        refine lv_aload_n hx hb dX3_assign_14 rfl (lv_at hl 0 rfl) ?_
        refine va_get (D := D) (ci := 3) (v := .ref (a 13)) (C := RX3) (T := TX3) (N := 4) hx hb hts (fun w h => List.mem_cons_of_mem _ (List.mem_append_left _ (List.mem_append_left _ (List.mem_append_left _ (List.mem_append_left _ (List.mem_append_left _ (List.mem_append_right _ h))))))) hown hK hP 0 rfl rfl 1 (by decide) (hts (.fieldLink RX3 19 "CashAllocator" "receiptBook" "LCashAllocator$ReceiptBook;") (by decide +kernel)) (fun _ h9 => h9) rfl dX3_assign_15 ?_
        refine va_get (D := D) (ci := 2) (v := .ref (a 14)) (C := RX2) (T := TX2) (N := 9) hx hb hts (fun w h => List.mem_cons_of_mem _ (List.mem_append_left _ (List.mem_append_left _ (List.mem_append_left _ (List.mem_append_left _ (List.mem_append_right _ h)))))) hown hK hP 13 rfl rfl 0 (by decide) (hts (.fieldLink RX3 79 "CashAllocator$ReceiptBook" "customer" "[I") (by decide +kernel)) (fun _ h9 => h9) rfl dX3_assign_18 ?_
        refine lv_iload_n hx hb dX3_assign_21 rfl (lv_at hl 1 rfl) ?_
        refine zald hx hb hK hP 14 (n := 30) (f := (R 0)) rfl (rc) rfl (by omega) (by decide) dX3_assign_22 ?_
        refine lv_iconst (v := (-1)) hx hb dX3_assign_23 (by decide) ?_
        refine lv_icmp_eq (tgt := 37) hx hb dX3_assign_24 (by decide) (fun c24 => ?_) (fun c24 => ?_)
        · -- 24 taken
          exact absurd (by rw [if_neg (not_or.mpr ⟨hx2, hx6⟩), if_neg (not_or.mpr ⟨hx11, (fun z => z c24)⟩)]) hk
        · -- 24 on
          exact zthrow hx hb hfl (cls := eS) (text := "the receipt has a customer") (ik := 46) (is := 83) (ic := 50) (by decide) (by decide) (by rw [hE, if_neg (not_or.mpr ⟨hx2, hx6⟩), if_pos (Or.inr c24)]; rfl) hown (hts (.classLink RX3 46 eS) (by decide +kernel)) (hts (.initialized eS) (by decide +kernel)) (fun w h => hts w ((fun w h => List.mem_cons_of_mem _ (List.mem_append_left _ (List.mem_append_right _ h))) w h)) hgS hbS hX hZ hK hP hD hS hl.1 hml dX3_assign_27 dX3_assign_30 ⟨dX3_assign_31, dX3_assign_33, dX3_assign_36⟩ htb (Nat.le_of_ble_eq_true rfl) (Nat.le_of_ble_eq_true rfl) ⟨Nat.le_of_ble_eq_true rfl, Nat.le_of_ble_eq_true rfl⟩ hlocks (Nat.le_refl _) (Nat.le_refl _)
set_option maxHeartbeats 4000000 in
set_option maxRecDepth 100000 in
theorem x_X3_apply (l : Launch) (hfl : l.stackTraces = false) (D : va_G) (cI cZ : ClassId) (a : Nat → Nat) (sz : Nat) (B : Nat → Nat → Int32) (R : Nat → Nat → Int32) (E : Nat → Nat → Int32) (td : Int32) (q : Nat) (vx : Int32) (E0 : String) (hR : R 8 0 = nI q) (hq : q ≤ 30) (hk : ¬ aplK R vx = 0) (hE : E0 = exB (aplK R vx)) : vx_Met l yX3_apply wsX3_apply ({ frames := 7, cells := 1, slots := 6, locals := 136 } : Room) (va_Pc [.ref (a 0), .int (vx)] (PreX D cI cZ (wCA a cI cZ B R E (td)) sz)) (QNo (va_A (wCA a cI cZ B R E (td)) sz)) (XCw D cI cZ (va_A (wCA a cI cZ B R E (td)) sz) (wCA a cI cZ B R E (td)) E0) 1 6 (va_A (wCA a cI cZ B R E (td)) sz) := by
  refine vx_ofW (cc := cX3_apply) (maxL := 2) (ret := (some .int)) (by decide) rfl ?_
  intro p e s m args below meth c s₁ BB hml htb hv
  obtain ⟨rfl, ⟨hsz, hP, hK, hD0⟩, hX, hZ⟩ := hv
  have hx := BB.exec
  have hb := BB.bytes
  have hr := BB.returns
  have hts := atoms_spec (ws := wsX3_apply) BB.pre
  have hown : s.vm.findClass RX3 = some m.cls := findClass_of_methodNamed BB.named
  have hlocks := BB.notSynchronized
  clear BB
  subst hsz
  have hD := hD0.self (sz := s.heap.size)
  clear hD0
  generalize hAe : va_A (wCA a cI cZ B R E (td)) s.heap.size = A at hD hZ ⊢
  have hA : ∀ q : Nat, s.heap.size ≤ q → A q := fun q h => by rw [← hAe]; exact Or.inr h
  clear hAe
  have hl := lv_entry ([.ref (a 0), .int (vx)]) (n := 2) (Nat.le_of_ble_eq_true rfl)
  rw [lg_entry_eq]
  generalize (lg_sl ([.ref (a 0), .int (vx)]) ++ List.replicate (2 - (lg_sl ([.ref (a 0), .int (vx)])).length) Slot.unset).toArray = ls at hl ⊢
  have hl : lv_has ls 2 [(0, .ref (a 0)), (1, .int (vx))] := hl
  generalize hHe : s.heap = H at hP ⊢
  have hS : va_S A s.heap H [] := by rw [← hHe]; exact va_S.rf
  clear hHe
  generalize hLe : ([] : List Loc) = locs at hS ⊢
  clear hLe
  refine lv_aload_n hx hb dX3_apply_0 rfl (lv_at hl 0 rfl) ?_
  refine lv_iload_n hx hb dX3_apply_1 rfl (lv_at hl 1 rfl) ?_
  by_cases hx2 : vx < 0 ∨ ¬ vx < R 8 0
  · -- 2 throws
    exact zxV (ci := 3) (q0 := 0) (List.range 26) ⟨hx, hb, hml, hown, hts⟩ (zwAll 26 (by decide) rfl hP hD hS hA) hK hX hZ (x_X3_requireReceipt l hfl D cI cZ a H.size (B) (R) (E) (td) (vx) hx2) (cwV 1 hts gX3_apply_X3_requireReceipt rfl rfl rfl (by decide +kernel) ⟨Nat.le_of_ble_eq_true rfl, Nat.le_of_ble_eq_true rfl⟩) rfl rfl (by decide) rfl rfl hl.1 rfl (Nat.le_of_ble_eq_true rfl) dX3_apply_2 ⟨Nat.le_of_ble_eq_true rfl, Nat.le_of_ble_eq_true rfl⟩ (fun ce q9 H1 locs1 hP hD hS hce hcv hcl => zxo (by rw [hE, aplK, if_pos hx2]; rfl) hK htb hlocks (Nat.le_refl _) (Nat.le_refl _) ce q9 H1 locs1 hP hD hS hce hcv hcl)
  · -- 2 on
    refine zcVv (ci := 3) (q0 := 0) (wf := (fun (u : Unit) => (wCA a cI cZ B R E (td)))) (List.range 26) ⟨hx, hb, hml, hown, hts⟩ (zwAll 26 (by decide) rfl hP hD hS hA) hK (c_X3_requireReceipt l D cI cZ a H.size (B) (R) (E) (td) (vx) (n1 hx2) (n2 hx2)) (cwV 1 hts gX3_apply_X3_requireReceipt rfl rfl rfl (by decide +kernel) ⟨Nat.le_of_ble_eq_true rfl, Nat.le_of_ble_eq_true rfl⟩) rfl rfl (by decide) (fun _ => rfl) rfl hl.1 rfl (Nat.le_of_ble_eq_true rfl) dX3_apply_2 ⟨Nat.le_of_ble_eq_true rfl, Nat.le_of_ble_eq_true rfl⟩ (fun u H locs hw hP hD hS => ?_)
    obtain ⟨rc, hrq, ej⟩ := ix_of (n := q) (by omega) (n1 hx2) (by rw [← hR]; exact n2 hx2)
    subst ej
    have hcl : (nI rc).toNatClampNeg = rc := nI_clamp (by omega)
    rw [aplK, hcl] at hE hk
    refine lv_aload_n hx hb dX3_apply_5 rfl (lv_at hl 0 rfl) ?_
    refine lv_iload_n hx hb dX3_apply_6 rfl (lv_at hl 1 rfl) ?_
    by_cases hx7 : ¬ R 5 rc = 0
    · -- 7 throws
      exact zxV (ci := 3) (q0 := 0) (List.range 26) ⟨hx, hb, hml, hown, hts⟩ (zwAll 26 (by decide) rfl hP hD hS hA) hK hX hZ (x_X3_requireNotBounced l hfl D cI cZ a H.size (B) (R) (E) (td) (rc) (by first | assumption | omega) hx7) (cwV 1 hts gX3_apply_X3_requireNotBounced rfl rfl rfl (by decide +kernel) ⟨Nat.le_of_ble_eq_true rfl, Nat.le_of_ble_eq_true rfl⟩) rfl rfl (by decide) rfl rfl hl.1 rfl (Nat.le_of_ble_eq_true rfl) dX3_apply_7 ⟨Nat.le_of_ble_eq_true rfl, Nat.le_of_ble_eq_true rfl⟩ (fun ce q9 H1 locs1 hP hD hS hce hcv hcl => zxo (by rw [hE, if_neg hx2, if_pos (Or.inl hx7)]; rfl) hK htb hlocks (Nat.le_refl _) (Nat.le_refl _) ce q9 H1 locs1 hP hD hS hce hcv hcl)
    · -- 7 on
      refine zcVv (ci := 3) (q0 := 0) (wf := (fun (u : Unit) => (wCA a cI cZ B R E (td)))) (List.range 26) ⟨hx, hb, hml, hown, hts⟩ (zwAll 26 (by decide) rfl hP hD hS hA) hK (c_X3_requireNotBounced l D cI cZ a H.size (B) (R) (E) (td) (rc) (by first | assumption | omega) (Classical.not_not.mp hx7)) (cwV 1 hts gX3_apply_X3_requireNotBounced rfl rfl rfl (by decide +kernel) ⟨Nat.le_of_ble_eq_true rfl, Nat.le_of_ble_eq_true rfl⟩) rfl rfl (by decide) (fun _ => rfl) rfl hl.1 rfl (Nat.le_of_ble_eq_true rfl) dX3_apply_7 ⟨Nat.le_of_ble_eq_true rfl, Nat.le_of_ble_eq_true rfl⟩ (fun u H locs hw hP hD hS => ?_)
      refine lv_aload_n hx hb dX3_apply_10 rfl (lv_at hl 0 rfl) ?_
      refine va_get (D := D) (ci := 3) (v := .ref (a 13)) (C := RX3) (T := TX3) (N := 4) hx hb hts (fun w h => List.mem_cons_of_mem _ (List.mem_append_left _ (List.mem_append_left _ (List.mem_append_left _ (List.mem_append_left _ (List.mem_append_left _ (List.mem_append_right _ h))))))) hown hK hP 0 rfl rfl 1 (by decide) (hts (.fieldLink RX3 19 "CashAllocator" "receiptBook" "LCashAllocator$ReceiptBook;") (by decide +kernel)) (fun _ h9 => h9) rfl dX3_apply_11 ?_
      refine va_get (D := D) (ci := 2) (v := .ref (a 14)) (C := RX2) (T := TX2) (N := 9) hx hb hts (fun w h => List.mem_cons_of_mem _ (List.mem_append_left _ (List.mem_append_left _ (List.mem_append_left _ (List.mem_append_left _ (List.mem_append_right _ h)))))) hown hK hP 13 rfl rfl 0 (by decide) (hts (.fieldLink RX3 79 "CashAllocator$ReceiptBook" "customer" "[I") (by decide +kernel)) (fun _ h9 => h9) rfl dX3_apply_14 ?_
      refine lv_iload_n hx hb dX3_apply_17 rfl (lv_at hl 1 rfl) ?_
      refine zald hx hb hK hP 14 (n := 30) (f := (R 0)) rfl (rc) rfl (by omega) (by decide) dX3_apply_18 ?_
      refine lv_iconst (v := (-1)) hx hb dX3_apply_19 (by decide) ?_
      refine lv_icmp_ne (tgt := 33) hx hb dX3_apply_20 (by decide) (fun c20 => ?_) (fun c20 => ?_)
      · -- 20 taken
        exact absurd (by rw [if_neg hx2, if_neg (not_or.mpr ⟨hx7, c20⟩)]) hk
      · -- 20 on
        exact zthrow hx hb hfl (cls := eS) (text := "the receipt has no customer") (ik := 46) (is := 88) (ic := 50) (by decide) (by decide) (by rw [hE, if_neg hx2, if_pos (Or.inr c20)]; rfl) hown (hts (.classLink RX3 46 eS) (by decide +kernel)) (hts (.initialized eS) (by decide +kernel)) (fun w h => hts w ((fun w h => List.mem_cons_of_mem _ (List.mem_append_left _ (List.mem_append_right _ h))) w h)) hgS hbS hX hZ hK hP hD hS hl.1 hml dX3_apply_23 dX3_apply_26 ⟨dX3_apply_27, dX3_apply_29, dX3_apply_32⟩ htb (Nat.le_of_ble_eq_true rfl) (Nat.le_of_ble_eq_true rfl) ⟨Nat.le_of_ble_eq_true rfl, Nat.le_of_ble_eq_true rfl⟩ hlocks (Nat.le_refl _) (Nat.le_refl _)
set_option maxHeartbeats 4000000 in
set_option maxRecDepth 100000 in
theorem x_X3_payBack (l : Launch) (hfl : l.stackTraces = false) (D : va_G) (cI cZ : ClassId) (a : Nat → Nat) (sz : Nat) (B : Nat → Nat → Int32) (R : Nat → Nat → Int32) (E : Nat → Nat → Int32) (td : Int32) (q : Nat) (vx : Int32) (E0 : String) (hR : R 8 0 = nI q) (hq : q ≤ 30) (hk : ¬ pbkK R vx = 0) (hE : E0 = exB (pbkK R vx)) : vx_Met l yX3_payBack wsX3_payBack ({ frames := 7, cells := 1, slots := 6, locals := 111 } : Room) (va_Pc [.ref (a 0), .int (vx)] (PreX D cI cZ (wCA a cI cZ B R E (td)) sz)) (QNo (va_A (wCA a cI cZ B R E (td)) sz)) (XCw D cI cZ (va_A (wCA a cI cZ B R E (td)) sz) (wCA a cI cZ B R E (td)) E0) 1 6 (va_A (wCA a cI cZ B R E (td)) sz) := by
  refine vx_ofW (cc := cX3_payBack) (maxL := 2) (ret := (some .int)) (by decide) rfl ?_
  intro p e s m args below meth c s₁ BB hml htb hv
  obtain ⟨rfl, ⟨hsz, hP, hK, hD0⟩, hX, hZ⟩ := hv
  have hx := BB.exec
  have hb := BB.bytes
  have hr := BB.returns
  have hts := atoms_spec (ws := wsX3_payBack) BB.pre
  have hown : s.vm.findClass RX3 = some m.cls := findClass_of_methodNamed BB.named
  have hlocks := BB.notSynchronized
  clear BB
  subst hsz
  have hD := hD0.self (sz := s.heap.size)
  clear hD0
  generalize hAe : va_A (wCA a cI cZ B R E (td)) s.heap.size = A at hD hZ ⊢
  have hA : ∀ q : Nat, s.heap.size ≤ q → A q := fun q h => by rw [← hAe]; exact Or.inr h
  clear hAe
  have hl := lv_entry ([.ref (a 0), .int (vx)]) (n := 2) (Nat.le_of_ble_eq_true rfl)
  rw [lg_entry_eq]
  generalize (lg_sl ([.ref (a 0), .int (vx)]) ++ List.replicate (2 - (lg_sl ([.ref (a 0), .int (vx)])).length) Slot.unset).toArray = ls at hl ⊢
  have hl : lv_has ls 2 [(0, .ref (a 0)), (1, .int (vx))] := hl
  generalize hHe : s.heap = H at hP ⊢
  have hS : va_S A s.heap H [] := by rw [← hHe]; exact va_S.rf
  clear hHe
  generalize hLe : ([] : List Loc) = locs at hS ⊢
  clear hLe
  refine lv_aload_n hx hb dX3_payBack_0 rfl (lv_at hl 0 rfl) ?_
  refine lv_iload_n hx hb dX3_payBack_1 rfl (lv_at hl 1 rfl) ?_
  by_cases hx2 : vx < 0 ∨ ¬ vx < R 8 0
  · -- 2 throws
    exact zxV (ci := 3) (q0 := 0) (List.range 26) ⟨hx, hb, hml, hown, hts⟩ (zwAll 26 (by decide) rfl hP hD hS hA) hK hX hZ (x_X3_requireReceipt l hfl D cI cZ a H.size (B) (R) (E) (td) (vx) hx2) (cwV 1 hts gX3_payBack_X3_requireReceipt rfl rfl rfl (by decide +kernel) ⟨Nat.le_of_ble_eq_true rfl, Nat.le_of_ble_eq_true rfl⟩) rfl rfl (by decide) rfl rfl hl.1 rfl (Nat.le_of_ble_eq_true rfl) dX3_payBack_2 ⟨Nat.le_of_ble_eq_true rfl, Nat.le_of_ble_eq_true rfl⟩ (fun ce q9 H1 locs1 hP hD hS hce hcv hcl => zxo (by rw [hE, pbkK, if_pos hx2]; rfl) hK htb hlocks (Nat.le_refl _) (Nat.le_refl _) ce q9 H1 locs1 hP hD hS hce hcv hcl)
  · -- 2 on
    refine zcVv (ci := 3) (q0 := 0) (wf := (fun (u : Unit) => (wCA a cI cZ B R E (td)))) (List.range 26) ⟨hx, hb, hml, hown, hts⟩ (zwAll 26 (by decide) rfl hP hD hS hA) hK (c_X3_requireReceipt l D cI cZ a H.size (B) (R) (E) (td) (vx) (n1 hx2) (n2 hx2)) (cwV 1 hts gX3_payBack_X3_requireReceipt rfl rfl rfl (by decide +kernel) ⟨Nat.le_of_ble_eq_true rfl, Nat.le_of_ble_eq_true rfl⟩) rfl rfl (by decide) (fun _ => rfl) rfl hl.1 rfl (Nat.le_of_ble_eq_true rfl) dX3_payBack_2 ⟨Nat.le_of_ble_eq_true rfl, Nat.le_of_ble_eq_true rfl⟩ (fun u H locs hw hP hD hS => ?_)
    obtain ⟨rc, hrq, ej⟩ := ix_of (n := q) (by omega) (n1 hx2) (by rw [← hR]; exact n2 hx2)
    subst ej
    have hcl : (nI rc).toNatClampNeg = rc := nI_clamp (by omega)
    rw [pbkK, hcl] at hE hk
    refine lv_aload_n hx hb dX3_payBack_5 rfl (lv_at hl 0 rfl) ?_
    refine lv_iload_n hx hb dX3_payBack_6 rfl (lv_at hl 1 rfl) ?_
    by_cases hx7 : ¬ R 5 rc = 0
    · -- 7 throws
      exact zxV (ci := 3) (q0 := 0) (List.range 26) ⟨hx, hb, hml, hown, hts⟩ (zwAll 26 (by decide) rfl hP hD hS hA) hK hX hZ (x_X3_requireNotBounced l hfl D cI cZ a H.size (B) (R) (E) (td) (rc) (by first | assumption | omega) hx7) (cwV 1 hts gX3_payBack_X3_requireNotBounced rfl rfl rfl (by decide +kernel) ⟨Nat.le_of_ble_eq_true rfl, Nat.le_of_ble_eq_true rfl⟩) rfl rfl (by decide) rfl rfl hl.1 rfl (Nat.le_of_ble_eq_true rfl) dX3_payBack_7 ⟨Nat.le_of_ble_eq_true rfl, Nat.le_of_ble_eq_true rfl⟩ (fun ce q9 H1 locs1 hP hD hS hce hcv hcl => zxo (by rw [hE, if_neg hx2, if_pos (Or.inl hx7)]; rfl) hK htb hlocks (Nat.le_refl _) (Nat.le_refl _) ce q9 H1 locs1 hP hD hS hce hcv hcl)
    · -- 7 on
      refine zcVv (ci := 3) (q0 := 0) (wf := (fun (u : Unit) => (wCA a cI cZ B R E (td)))) (List.range 26) ⟨hx, hb, hml, hown, hts⟩ (zwAll 26 (by decide) rfl hP hD hS hA) hK (c_X3_requireNotBounced l D cI cZ a H.size (B) (R) (E) (td) (rc) (by first | assumption | omega) (Classical.not_not.mp hx7)) (cwV 1 hts gX3_payBack_X3_requireNotBounced rfl rfl rfl (by decide +kernel) ⟨Nat.le_of_ble_eq_true rfl, Nat.le_of_ble_eq_true rfl⟩) rfl rfl (by decide) (fun _ => rfl) rfl hl.1 rfl (Nat.le_of_ble_eq_true rfl) dX3_payBack_7 ⟨Nat.le_of_ble_eq_true rfl, Nat.le_of_ble_eq_true rfl⟩ (fun u H locs hw hP hD hS => ?_)
      refine lv_aload_n hx hb dX3_payBack_10 rfl (lv_at hl 0 rfl) ?_
      refine va_get (D := D) (ci := 3) (v := .ref (a 13)) (C := RX3) (T := TX3) (N := 4) hx hb hts (fun w h => List.mem_cons_of_mem _ (List.mem_append_left _ (List.mem_append_left _ (List.mem_append_left _ (List.mem_append_right _ h))))) hown hK hP 0 rfl rfl 1 (by decide) (hts (.fieldLink RX3 19 "CashAllocator" "receiptBook" "LCashAllocator$ReceiptBook;") (by decide +kernel)) (fun _ h9 => h9) rfl dX3_payBack_11 ?_
      refine va_get (D := D) (ci := 2) (v := .ref (a 17)) (C := RX2) (T := TX2) (N := 9) hx hb hts (fun w h => List.mem_cons_of_mem _ (List.mem_append_left _ (List.mem_append_left _ (List.mem_append_right _ h)))) hown hK hP 13 rfl rfl 3 (by decide) (hts (.fieldLink RX3 85 "CashAllocator$ReceiptBook" "unapplied" "[I") (by decide +kernel)) (fun _ h9 => h9) rfl dX3_payBack_14 ?_
      refine lv_iload_n hx hb dX3_payBack_17 rfl (lv_at hl 1 rfl) ?_
      refine zald hx hb hK hP 17 (n := 30) (f := (R 3)) rfl (rc) rfl (by omega) (by decide) dX3_payBack_18 ?_
      refine lv_if_ne (tgt := 32) hx hb dX3_payBack_19 (by decide) (fun c19 => ?_) (fun c19 => ?_)
      · -- 19 taken
        exact absurd (by rw [if_neg hx2, if_neg (not_or.mpr ⟨hx7, c19⟩)]) hk
      · -- 19 on
        exact zthrow hx hb hfl (cls := eS) (text := "nothing of the receipt is unapplied") (ik := 46) (is := 90) (ic := 50) (by decide) (by decide) (by rw [hE, if_neg hx2, if_pos (Or.inr c19)]; rfl) hown (hts (.classLink RX3 46 eS) (by decide +kernel)) (hts (.initialized eS) (by decide +kernel)) (fun w h => hts w ((fun w h => List.mem_cons_of_mem _ (List.mem_append_left _ (List.mem_append_right _ h))) w h)) hgS hbS hX hZ hK hP hD hS hl.1 hml dX3_payBack_22 dX3_payBack_25 ⟨dX3_payBack_26, dX3_payBack_28, dX3_payBack_31⟩ htb (Nat.le_of_ble_eq_true rfl) (Nat.le_of_ble_eq_true rfl) ⟨Nat.le_of_ble_eq_true rfl, Nat.le_of_ble_eq_true rfl⟩ hlocks (Nat.le_refl _) (Nat.le_refl _)
set_option maxHeartbeats 4000000 in
set_option maxRecDepth 100000 in
theorem x_X3_bounce (l : Launch) (hfl : l.stackTraces = false) (D : va_G) (cI cZ : ClassId) (a : Nat → Nat) (sz : Nat) (B : Nat → Nat → Int32) (R : Nat → Nat → Int32) (E : Nat → Nat → Int32) (td : Int32) (q : Nat) (vx : Int32) (E0 : String) (hR : R 8 0 = nI q) (hq : q ≤ 30) (hk : ¬ bncK R vx = 0) (hE : E0 = exB (bncK R vx)) : vx_Met l yX3_bounce wsX3_bounce ({ frames := 7, cells := 1, slots := 6, locals := 111 } : Room) (va_Pc [.ref (a 0), .int (vx)] (PreX D cI cZ (wCA a cI cZ B R E (td)) sz)) (QNo (va_A (wCA a cI cZ B R E (td)) sz)) (XCw D cI cZ (va_A (wCA a cI cZ B R E (td)) sz) (wCA a cI cZ B R E (td)) E0) 1 6 (va_A (wCA a cI cZ B R E (td)) sz) := by
  refine vx_ofW (cc := cX3_bounce) (maxL := 4) (ret := (some .int)) (by decide) rfl ?_
  intro p e s m args below meth c s₁ BB hml htb hv
  obtain ⟨rfl, ⟨hsz, hP, hK, hD0⟩, hX, hZ⟩ := hv
  have hx := BB.exec
  have hb := BB.bytes
  have hr := BB.returns
  have hts := atoms_spec (ws := wsX3_bounce) BB.pre
  have hown : s.vm.findClass RX3 = some m.cls := findClass_of_methodNamed BB.named
  have hlocks := BB.notSynchronized
  clear BB
  subst hsz
  have hD := hD0.self (sz := s.heap.size)
  clear hD0
  generalize hAe : va_A (wCA a cI cZ B R E (td)) s.heap.size = A at hD hZ ⊢
  have hA : ∀ q : Nat, s.heap.size ≤ q → A q := fun q h => by rw [← hAe]; exact Or.inr h
  clear hAe
  have hl := lv_entry ([.ref (a 0), .int (vx)]) (n := 4) (Nat.le_of_ble_eq_true rfl)
  rw [lg_entry_eq]
  generalize (lg_sl ([.ref (a 0), .int (vx)]) ++ List.replicate (4 - (lg_sl ([.ref (a 0), .int (vx)])).length) Slot.unset).toArray = ls at hl ⊢
  have hl : lv_has ls 4 [(0, .ref (a 0)), (1, .int (vx))] := hl
  generalize hHe : s.heap = H at hP ⊢
  have hS : va_S A s.heap H [] := by rw [← hHe]; exact va_S.rf
  clear hHe
  generalize hLe : ([] : List Loc) = locs at hS ⊢
  clear hLe
  refine lv_aload_n hx hb dX3_bounce_0 rfl (lv_at hl 0 rfl) ?_
  refine lv_iload_n hx hb dX3_bounce_1 rfl (lv_at hl 1 rfl) ?_
  by_cases hx2 : vx < 0 ∨ ¬ vx < R 8 0
  · -- 2 throws
    exact zxV (ci := 3) (q0 := 0) (List.range 26) ⟨hx, hb, hml, hown, hts⟩ (zwAll 26 (by decide) rfl hP hD hS hA) hK hX hZ (x_X3_requireReceipt l hfl D cI cZ a H.size (B) (R) (E) (td) (vx) hx2) (cwV 1 hts gX3_bounce_X3_requireReceipt rfl rfl rfl (by decide +kernel) ⟨Nat.le_of_ble_eq_true rfl, Nat.le_of_ble_eq_true rfl⟩) rfl rfl (by decide) rfl rfl hl.1 rfl (Nat.le_of_ble_eq_true rfl) dX3_bounce_2 ⟨Nat.le_of_ble_eq_true rfl, Nat.le_of_ble_eq_true rfl⟩ (fun ce q9 H1 locs1 hP hD hS hce hcv hcl => zxo (by rw [hE, bncK, if_pos hx2]; rfl) hK htb hlocks (Nat.le_refl _) (Nat.le_refl _) ce q9 H1 locs1 hP hD hS hce hcv hcl)
  · -- 2 on
    refine zcVv (ci := 3) (q0 := 0) (wf := (fun (u : Unit) => (wCA a cI cZ B R E (td)))) (List.range 26) ⟨hx, hb, hml, hown, hts⟩ (zwAll 26 (by decide) rfl hP hD hS hA) hK (c_X3_requireReceipt l D cI cZ a H.size (B) (R) (E) (td) (vx) (n1 hx2) (n2 hx2)) (cwV 1 hts gX3_bounce_X3_requireReceipt rfl rfl rfl (by decide +kernel) ⟨Nat.le_of_ble_eq_true rfl, Nat.le_of_ble_eq_true rfl⟩) rfl rfl (by decide) (fun _ => rfl) rfl hl.1 rfl (Nat.le_of_ble_eq_true rfl) dX3_bounce_2 ⟨Nat.le_of_ble_eq_true rfl, Nat.le_of_ble_eq_true rfl⟩ (fun u H locs hw hP hD hS => ?_)
    obtain ⟨rc, hrq, ej⟩ := ix_of (n := q) (by omega) (n1 hx2) (by rw [← hR]; exact n2 hx2)
    subst ej
    have hcl : (nI rc).toNatClampNeg = rc := nI_clamp (by omega)
    rw [bncK, hcl] at hE hk
    refine lv_aload_n hx hb dX3_bounce_5 rfl (lv_at hl 0 rfl) ?_
    refine lv_iload_n hx hb dX3_bounce_6 rfl (lv_at hl 1 rfl) ?_
    by_cases hx7 : ¬ R 5 rc = 0
    · -- 7 throws
      exact zxV (ci := 3) (q0 := 0) (List.range 26) ⟨hx, hb, hml, hown, hts⟩ (zwAll 26 (by decide) rfl hP hD hS hA) hK hX hZ (x_X3_requireNotBounced l hfl D cI cZ a H.size (B) (R) (E) (td) (rc) (by first | assumption | omega) hx7) (cwV 1 hts gX3_bounce_X3_requireNotBounced rfl rfl rfl (by decide +kernel) ⟨Nat.le_of_ble_eq_true rfl, Nat.le_of_ble_eq_true rfl⟩) rfl rfl (by decide) rfl rfl hl.1 rfl (Nat.le_of_ble_eq_true rfl) dX3_bounce_7 ⟨Nat.le_of_ble_eq_true rfl, Nat.le_of_ble_eq_true rfl⟩ (fun ce q9 H1 locs1 hP hD hS hce hcv hcl => zxo (by rw [hE, if_neg hx2, if_pos (Or.inl hx7)]; rfl) hK htb hlocks (Nat.le_refl _) (Nat.le_refl _) ce q9 H1 locs1 hP hD hS hce hcv hcl)
    · -- 7 on
      refine zcVv (ci := 3) (q0 := 0) (wf := (fun (u : Unit) => (wCA a cI cZ B R E (td)))) (List.range 26) ⟨hx, hb, hml, hown, hts⟩ (zwAll 26 (by decide) rfl hP hD hS hA) hK (c_X3_requireNotBounced l D cI cZ a H.size (B) (R) (E) (td) (rc) (by first | assumption | omega) (Classical.not_not.mp hx7)) (cwV 1 hts gX3_bounce_X3_requireNotBounced rfl rfl rfl (by decide +kernel) ⟨Nat.le_of_ble_eq_true rfl, Nat.le_of_ble_eq_true rfl⟩) rfl rfl (by decide) (fun _ => rfl) rfl hl.1 rfl (Nat.le_of_ble_eq_true rfl) dX3_bounce_7 ⟨Nat.le_of_ble_eq_true rfl, Nat.le_of_ble_eq_true rfl⟩ (fun u H locs hw hP hD hS => ?_)
      refine lv_aload_n hx hb dX3_bounce_10 rfl (lv_at hl 0 rfl) ?_
      refine va_get (D := D) (ci := 3) (v := .ref (a 13)) (C := RX3) (T := TX3) (N := 4) hx hb hts (fun w h => List.mem_cons_of_mem _ (List.mem_append_left _ (List.mem_append_left _ (List.mem_append_left _ (List.mem_append_left _ (List.mem_append_right _ h)))))) hown hK hP 0 rfl rfl 1 (by decide) (hts (.fieldLink RX3 19 "CashAllocator" "receiptBook" "LCashAllocator$ReceiptBook;") (by decide +kernel)) (fun _ h9 => h9) rfl dX3_bounce_11 ?_
      refine va_get (D := D) (ci := 2) (v := .ref (a 18)) (C := RX2) (T := TX2) (N := 9) hx hb hts (fun w h => List.mem_cons_of_mem _ (List.mem_append_left _ (List.mem_append_left _ (List.mem_append_left _ (List.mem_append_right _ h))))) hown hK hP 13 rfl rfl 4 (by decide) (hts (.fieldLink RX3 96 "CashAllocator$ReceiptBook" "paidBack" "[I") (by decide +kernel)) (fun _ h9 => h9) rfl dX3_bounce_14 ?_
      refine lv_iload_n hx hb dX3_bounce_17 rfl (lv_at hl 1 rfl) ?_
      refine zald hx hb hK hP 18 (n := 30) (f := (R 4)) rfl (rc) rfl (by omega) (by decide) dX3_bounce_18 ?_
      refine lv_if_le (tgt := 32) hx hb dX3_bounce_19 (by decide) (fun c19 => ?_) (fun c19 => ?_)
      · -- 19 taken
        exact absurd (by rw [if_neg hx2, if_neg (not_or.mpr ⟨hx7, (fun z => z c19)⟩)]) hk
      · -- 19 on
        exact zthrow hx hb hfl (cls := eS) (text := "something of the receipt was paid back") (ik := 46) (is := 99) (ic := 50) (by decide) (by decide) (by rw [hE, if_neg hx2, if_pos (Or.inr c19)]; rfl) hown (hts (.classLink RX3 46 eS) (by decide +kernel)) (hts (.initialized eS) (by decide +kernel)) (fun w h => hts w ((fun w h => List.mem_cons_of_mem _ (List.mem_append_left _ (List.mem_append_right _ h))) w h)) hgS hbS hX hZ hK hP hD hS hl.1 hml dX3_bounce_22 dX3_bounce_25 ⟨dX3_bounce_26, dX3_bounce_28, dX3_bounce_31⟩ htb (Nat.le_of_ble_eq_true rfl) (Nat.le_of_ble_eq_true rfl) ⟨Nat.le_of_ble_eq_true rfl, Nat.le_of_ble_eq_true rfl⟩ hlocks (Nat.le_refl _) (Nat.le_refl _)
set_option maxHeartbeats 4000000 in
set_option maxRecDepth 100000 in
theorem x_X3_settle (l : Launch) (hfl : l.stackTraces = false) (D : va_G) (cI cZ : ClassId) (a : Nat → Nat) (sz : Nat) (B : Nat → Nat → Int32) (R : Nat → Nat → Int32) (E : Nat → Nat → Int32) (td : Int32) (n : Nat) (vx : Int32) (zz : Int32) (E0 : String) (hB : B 11 0 = nI n) (hn : n ≤ 40) (hk : ¬ stlK B vx = 0) (hE : E0 = exB (stlK B vx)) : vx_Met l yX3_settle wsX3_settle ({ frames := 7, cells := 1, slots := 6, locals := 111 } : Room) (va_Pc [.ref (a 0), .int (vx), .int (zz)] (PreX D cI cZ (wCA a cI cZ B R E (td)) sz)) (QNo (va_A (wCA a cI cZ B R E (td)) sz)) (XCw D cI cZ (va_A (wCA a cI cZ B R E (td)) sz) (wCA a cI cZ B R E (td)) E0) 1 6 (va_A (wCA a cI cZ B R E (td)) sz) := by
  refine vx_ofW (cc := cX3_settle) (maxL := 3) (ret := (some .int)) (by decide) rfl ?_
  intro p e s m args below meth c s₁ BB hml htb hv
  obtain ⟨rfl, ⟨hsz, hP, hK, hD0⟩, hX, hZ⟩ := hv
  have hx := BB.exec
  have hb := BB.bytes
  have hr := BB.returns
  have hts := atoms_spec (ws := wsX3_settle) BB.pre
  have hown : s.vm.findClass RX3 = some m.cls := findClass_of_methodNamed BB.named
  have hlocks := BB.notSynchronized
  clear BB
  subst hsz
  have hD := hD0.self (sz := s.heap.size)
  clear hD0
  generalize hAe : va_A (wCA a cI cZ B R E (td)) s.heap.size = A at hD hZ ⊢
  have hA : ∀ q : Nat, s.heap.size ≤ q → A q := fun q h => by rw [← hAe]; exact Or.inr h
  clear hAe
  have hl := lv_entry ([.ref (a 0), .int (vx), .int (zz)]) (n := 3) (Nat.le_of_ble_eq_true rfl)
  rw [lg_entry_eq]
  generalize (lg_sl ([.ref (a 0), .int (vx), .int (zz)]) ++ List.replicate (3 - (lg_sl ([.ref (a 0), .int (vx), .int (zz)])).length) Slot.unset).toArray = ls at hl ⊢
  have hl : lv_has ls 3 [(0, .ref (a 0)), (1, .int (vx)), (2, .int (zz))] := hl
  generalize hHe : s.heap = H at hP ⊢
  have hS : va_S A s.heap H [] := by rw [← hHe]; exact va_S.rf
  clear hHe
  generalize hLe : ([] : List Loc) = locs at hS ⊢
  clear hLe
  refine lv_aload_n hx hb dX3_settle_0 rfl (lv_at hl 0 rfl) ?_
  refine lv_iload_n hx hb dX3_settle_1 rfl (lv_at hl 1 rfl) ?_
  by_cases hx2 : vx < 0 ∨ ¬ vx < B 11 0
  · -- 2 throws
    exact zxV (ci := 3) (q0 := 0) (List.range 26) ⟨hx, hb, hml, hown, hts⟩ (zwAll 26 (by decide) rfl hP hD hS hA) hK hX hZ (x_X3_requireBill l hfl D cI cZ a H.size (B) (R) (E) (td) (vx) hx2) (cwV 1 hts gX3_settle_X3_requireBill rfl rfl rfl (by decide +kernel) ⟨Nat.le_of_ble_eq_true rfl, Nat.le_of_ble_eq_true rfl⟩) rfl rfl (by decide) rfl rfl hl.1 rfl (Nat.le_of_ble_eq_true rfl) dX3_settle_2 ⟨Nat.le_of_ble_eq_true rfl, Nat.le_of_ble_eq_true rfl⟩ (fun ce q9 H1 locs1 hP hD hS hce hcv hcl => zxo (by rw [hE, stlK, if_pos hx2]; rfl) hK htb hlocks (Nat.le_refl _) (Nat.le_refl _) ce q9 H1 locs1 hP hD hS hce hcv hcl)
  · -- 2 on
    refine zcVv (ci := 3) (q0 := 0) (wf := (fun (u : Unit) => (wCA a cI cZ B R E (td)))) (List.range 26) ⟨hx, hb, hml, hown, hts⟩ (zwAll 26 (by decide) rfl hP hD hS hA) hK (c_X3_requireBill l D cI cZ a H.size (B) (R) (E) (td) (vx) (n1 hx2) (n2 hx2)) (cwV 1 hts gX3_settle_X3_requireBill rfl rfl rfl (by decide +kernel) ⟨Nat.le_of_ble_eq_true rfl, Nat.le_of_ble_eq_true rfl⟩) rfl rfl (by decide) (fun _ => rfl) rfl hl.1 rfl (Nat.le_of_ble_eq_true rfl) dX3_settle_2 ⟨Nat.le_of_ble_eq_true rfl, Nat.le_of_ble_eq_true rfl⟩ (fun u H locs hw hP hD hS => ?_)
    obtain ⟨i, hbn, ej⟩ := ix_of (n := n) (by omega) (n1 hx2) (by rw [← hB]; exact n2 hx2)
    subst ej
    have hcl : (nI i).toNatClampNeg = i := nI_clamp (by omega)
    rw [stlK, hcl] at hE hk
    refine lv_aload_n hx hb dX3_settle_5 rfl (lv_at hl 0 rfl) ?_
    refine va_get (D := D) (ci := 3) (v := .ref (a 1)) (C := RX3) (T := TX3) (N := 4) hx hb hts (fun w h => List.mem_cons_of_mem _ (List.mem_append_left _ (List.mem_append_left _ (List.mem_append_left _ (List.mem_append_right _ h))))) hown hK hP 0 rfl rfl 0 (by decide) (hts (.fieldLink RX3 10 "CashAllocator" "billBook" "LCashAllocator$BillBook;") (by decide +kernel)) (fun _ h9 => h9) rfl dX3_settle_6 ?_
    refine va_get (D := D) (ci := 0) (v := .ref (a 10)) (C := RX0) (T := TX0) (N := 12) hx hb hts (fun w h => List.mem_cons_of_mem _ (List.mem_append_left _ (List.mem_append_left _ (List.mem_append_right _ h)))) hown hK hP 1 rfl rfl 8 (by decide) (hts (.fieldLink RX3 120 "CashAllocator$BillBook" "disputed" "[I") (by decide +kernel)) (fun _ h9 => h9) rfl dX3_settle_9 ?_
    refine lv_iload_n hx hb dX3_settle_12 rfl (lv_at hl 1 rfl) ?_
    refine zald hx hb hK hP 10 (n := 40) (f := (B 8)) rfl (i) rfl (by omega) (by decide) dX3_settle_13 ?_
    refine lv_if_ne (tgt := 27) hx hb dX3_settle_14 (by decide) (fun c14 => ?_) (fun c14 => ?_)
    · -- 14 taken
      exact absurd (by rw [if_neg hx2, if_neg c14]) hk
    · -- 14 on
      exact zthrow hx hb hfl (cls := eS) (text := "nothing of the bill is disputed") (ik := 46) (is := 123) (ic := 50) (by decide) (by decide) (by rw [hE, if_neg hx2, if_pos c14]; rfl) hown (hts (.classLink RX3 46 eS) (by decide +kernel)) (hts (.initialized eS) (by decide +kernel)) (fun w h => hts w ((fun w h => List.mem_cons_of_mem _ (List.mem_append_left _ (List.mem_append_right _ h))) w h)) hgS hbS hX hZ hK hP hD hS hl.1 hml dX3_settle_17 dX3_settle_20 ⟨dX3_settle_21, dX3_settle_23, dX3_settle_26⟩ htb (Nat.le_of_ble_eq_true rfl) (Nat.le_of_ble_eq_true rfl) ⟨Nat.le_of_ble_eq_true rfl, Nat.le_of_ble_eq_true rfl⟩ hlocks (Nat.le_refl _) (Nat.le_refl _)
set_option maxHeartbeats 4000000 in
set_option maxRecDepth 100000 in
theorem x_X3_advance (l : Launch) (hfl : l.stackTraces = false) (D : va_G) (cI cZ : ClassId) (a : Nat → Nat) (sz : Nat) (B : Nat → Nat → Int32) (R : Nat → Nat → Int32) (E : Nat → Nat → Int32) (td : Int32) (dd : Int32) (h : dd < 1 ∨ ¬ dd ≤ 100) : vx_Met l yX3_advance wsX3_advance ({ frames := 7, cells := 1, slots := 6, locals := 112 } : Room) (va_Pc [.ref (a 0), .int (dd)] (PreX D cI cZ (wCA a cI cZ B R E (td)) sz)) (QNo (va_A (wCA a cI cZ B R E (td)) sz)) (XCw D cI cZ (va_A (wCA a cI cZ B R E (td)) sz) (wCA a cI cZ B R E (td)) eA) 1 6 (va_A (wCA a cI cZ B R E (td)) sz) := by
  refine vx_ofW (cc := cX3_advance) (maxL := 2) (ret := (some .int)) (by decide) rfl ?_
  intro p e s m args below meth c s₁ BB hml htb hv
  obtain ⟨rfl, ⟨hsz, hP, hK, hD0⟩, hX, hZ⟩ := hv
  have hx := BB.exec
  have hb := BB.bytes
  have hr := BB.returns
  have hts := atoms_spec (ws := wsX3_advance) BB.pre
  have hown : s.vm.findClass RX3 = some m.cls := findClass_of_methodNamed BB.named
  have hlocks := BB.notSynchronized
  clear BB
  subst hsz
  have hD := hD0.self (sz := s.heap.size)
  clear hD0
  generalize hAe : va_A (wCA a cI cZ B R E (td)) s.heap.size = A at hD hZ ⊢
  have hA : ∀ q : Nat, s.heap.size ≤ q → A q := fun q h => by rw [← hAe]; exact Or.inr h
  clear hAe
  have hl := lv_entry ([.ref (a 0), .int (dd)]) (n := 2) (Nat.le_of_ble_eq_true rfl)
  rw [lg_entry_eq]
  generalize (lg_sl ([.ref (a 0), .int (dd)]) ++ List.replicate (2 - (lg_sl ([.ref (a 0), .int (dd)])).length) Slot.unset).toArray = ls at hl ⊢
  have hl : lv_has ls 2 [(0, .ref (a 0)), (1, .int (dd))] := hl
  generalize hHe : s.heap = H at hP ⊢
  have hS : va_S A s.heap H [] := by rw [← hHe]; exact va_S.rf
  clear hHe
  generalize hLe : ([] : List Loc) = locs at hS ⊢
  clear hLe
  refine lv_iload_n hx hb dX3_advance_0 rfl (lv_at hl 1 rfl) ?_
  refine lv_iconst (v := 1) hx hb dX3_advance_1 (by decide) ?_
  refine lv_bipush (v := 100) hx hb dX3_advance_2 (by decide) ?_
  exact zxS (List.range 26) ⟨hx, hb, hml, hown, hts⟩ (zwNo 26 (by decide) rfl hP hD hS hA) hK hX hZ (x_X3_requireWithin l hfl D cI cZ a H.size (dd) (1) (100) h) (cwS 3 hts gX3_advance_X3_requireWithin rfl rfl rfl (by decide +kernel) ⟨Nat.le_of_ble_eq_true rfl, Nat.le_of_ble_eq_true rfl⟩) (by decide) rfl rfl hl.1 rfl (Nat.le_of_ble_eq_true rfl) dX3_advance_4 ⟨Nat.le_of_ble_eq_true rfl, Nat.le_of_ble_eq_true rfl⟩ (fun ce q9 H1 locs1 hP hD hS hce hcv hcl => zxo rfl hK htb hlocks (Nat.le_refl _) (Nat.le_refl _) ce q9 H1 locs1 hP hD hS hce hcv hcl)
set_option maxHeartbeats 4000000 in
set_option maxRecDepth 100000 in
theorem x_X3_open (l : Launch) (hfl : l.stackTraces = false) (D : va_G) (cI cZ : ClassId) (a : Nat → Nat) (sz : Nat) (B : Nat → Nat → Int32) (R : Nat → Nat → Int32) (E : Nat → Nat → Int32) (td : Int32) (vx : Int32) (h : vx < 0 ∨ ¬ vx < B 11 0) : vx_Met l yX3_open wsX3_open ({ frames := 7, cells := 1, slots := 6, locals := 111 } : Room) (va_Pc [.ref (a 0), .int (vx)] (PreX D cI cZ (wCA a cI cZ B R E (td)) sz)) (QNo (va_A (wCA a cI cZ B R E (td)) sz)) (XCw D cI cZ (va_A (wCA a cI cZ B R E (td)) sz) (wCA a cI cZ B R E (td)) eI) 1 6 (va_A (wCA a cI cZ B R E (td)) sz) := by
  refine vx_ofW (cc := cX3_open) (maxL := 2) (ret := (some .int)) (by decide) rfl ?_
  intro p e s m args below meth c s₁ BB hml htb hv
  obtain ⟨rfl, ⟨hsz, hP, hK, hD0⟩, hX, hZ⟩ := hv
  have hx := BB.exec
  have hb := BB.bytes
  have hr := BB.returns
  have hts := atoms_spec (ws := wsX3_open) BB.pre
  have hown : s.vm.findClass RX3 = some m.cls := findClass_of_methodNamed BB.named
  have hlocks := BB.notSynchronized
  clear BB
  subst hsz
  have hD := hD0.self (sz := s.heap.size)
  clear hD0
  generalize hAe : va_A (wCA a cI cZ B R E (td)) s.heap.size = A at hD hZ ⊢
  have hA : ∀ q : Nat, s.heap.size ≤ q → A q := fun q h => by rw [← hAe]; exact Or.inr h
  clear hAe
  have hl := lv_entry ([.ref (a 0), .int (vx)]) (n := 2) (Nat.le_of_ble_eq_true rfl)
  rw [lg_entry_eq]
  generalize (lg_sl ([.ref (a 0), .int (vx)]) ++ List.replicate (2 - (lg_sl ([.ref (a 0), .int (vx)])).length) Slot.unset).toArray = ls at hl ⊢
  have hl : lv_has ls 2 [(0, .ref (a 0)), (1, .int (vx))] := hl
  generalize hHe : s.heap = H at hP ⊢
  have hS : va_S A s.heap H [] := by rw [← hHe]; exact va_S.rf
  clear hHe
  generalize hLe : ([] : List Loc) = locs at hS ⊢
  clear hLe
  refine lv_aload_n hx hb dX3_open_0 rfl (lv_at hl 0 rfl) ?_
  refine lv_iload_n hx hb dX3_open_1 rfl (lv_at hl 1 rfl) ?_
  exact zxV (ci := 3) (q0 := 0) (List.range 26) ⟨hx, hb, hml, hown, hts⟩ (zwAll 26 (by decide) rfl hP hD hS hA) hK hX hZ (x_X3_requireBill l hfl D cI cZ a H.size (B) (R) (E) (td) (vx) h) (cwV 1 hts gX3_open_X3_requireBill rfl rfl rfl (by decide +kernel) ⟨Nat.le_of_ble_eq_true rfl, Nat.le_of_ble_eq_true rfl⟩) rfl rfl (by decide) rfl rfl hl.1 rfl (Nat.le_of_ble_eq_true rfl) dX3_open_2 ⟨Nat.le_of_ble_eq_true rfl, Nat.le_of_ble_eq_true rfl⟩ (fun ce q9 H1 locs1 hP hD hS hce hcv hcl => zxo rfl hK htb hlocks (Nat.le_refl _) (Nat.le_refl _) ce q9 H1 locs1 hP hD hS hce hcv hcl)
set_option maxHeartbeats 4000000 in
set_option maxRecDepth 100000 in
theorem x_X3_due (l : Launch) (hfl : l.stackTraces = false) (D : va_G) (cI cZ : ClassId) (a : Nat → Nat) (sz : Nat) (B : Nat → Nat → Int32) (R : Nat → Nat → Int32) (E : Nat → Nat → Int32) (td : Int32) (vx : Int32) (h : vx < 0 ∨ ¬ vx < B 11 0) : vx_Met l yX3_due wsX3_due ({ frames := 7, cells := 1, slots := 6, locals := 111 } : Room) (va_Pc [.ref (a 0), .int (vx)] (PreX D cI cZ (wCA a cI cZ B R E (td)) sz)) (QNo (va_A (wCA a cI cZ B R E (td)) sz)) (XCw D cI cZ (va_A (wCA a cI cZ B R E (td)) sz) (wCA a cI cZ B R E (td)) eI) 1 6 (va_A (wCA a cI cZ B R E (td)) sz) := by
  refine vx_ofW (cc := cX3_due) (maxL := 2) (ret := (some .int)) (by decide) rfl ?_
  intro p e s m args below meth c s₁ BB hml htb hv
  obtain ⟨rfl, ⟨hsz, hP, hK, hD0⟩, hX, hZ⟩ := hv
  have hx := BB.exec
  have hb := BB.bytes
  have hr := BB.returns
  have hts := atoms_spec (ws := wsX3_due) BB.pre
  have hown : s.vm.findClass RX3 = some m.cls := findClass_of_methodNamed BB.named
  have hlocks := BB.notSynchronized
  clear BB
  subst hsz
  have hD := hD0.self (sz := s.heap.size)
  clear hD0
  generalize hAe : va_A (wCA a cI cZ B R E (td)) s.heap.size = A at hD hZ ⊢
  have hA : ∀ q : Nat, s.heap.size ≤ q → A q := fun q h => by rw [← hAe]; exact Or.inr h
  clear hAe
  have hl := lv_entry ([.ref (a 0), .int (vx)]) (n := 2) (Nat.le_of_ble_eq_true rfl)
  rw [lg_entry_eq]
  generalize (lg_sl ([.ref (a 0), .int (vx)]) ++ List.replicate (2 - (lg_sl ([.ref (a 0), .int (vx)])).length) Slot.unset).toArray = ls at hl ⊢
  have hl : lv_has ls 2 [(0, .ref (a 0)), (1, .int (vx))] := hl
  generalize hHe : s.heap = H at hP ⊢
  have hS : va_S A s.heap H [] := by rw [← hHe]; exact va_S.rf
  clear hHe
  generalize hLe : ([] : List Loc) = locs at hS ⊢
  clear hLe
  refine lv_aload_n hx hb dX3_due_0 rfl (lv_at hl 0 rfl) ?_
  refine lv_iload_n hx hb dX3_due_1 rfl (lv_at hl 1 rfl) ?_
  exact zxV (ci := 3) (q0 := 0) (List.range 26) ⟨hx, hb, hml, hown, hts⟩ (zwAll 26 (by decide) rfl hP hD hS hA) hK hX hZ (x_X3_requireBill l hfl D cI cZ a H.size (B) (R) (E) (td) (vx) h) (cwV 1 hts gX3_due_X3_requireBill rfl rfl rfl (by decide +kernel) ⟨Nat.le_of_ble_eq_true rfl, Nat.le_of_ble_eq_true rfl⟩) rfl rfl (by decide) rfl rfl hl.1 rfl (Nat.le_of_ble_eq_true rfl) dX3_due_2 ⟨Nat.le_of_ble_eq_true rfl, Nat.le_of_ble_eq_true rfl⟩ (fun ce q9 H1 locs1 hP hD hS hce hcv hcl => zxo rfl hK htb hlocks (Nat.le_refl _) (Nat.le_refl _) ce q9 H1 locs1 hP hD hS hce hcv hcl)
set_option maxHeartbeats 4000000 in
set_option maxRecDepth 100000 in
theorem x_X3_paid (l : Launch) (hfl : l.stackTraces = false) (D : va_G) (cI cZ : ClassId) (a : Nat → Nat) (sz : Nat) (B : Nat → Nat → Int32) (R : Nat → Nat → Int32) (E : Nat → Nat → Int32) (td : Int32) (vx : Int32) (h : vx < 0 ∨ ¬ vx < B 11 0) : vx_Met l yX3_paid wsX3_paid ({ frames := 7, cells := 1, slots := 6, locals := 111 } : Room) (va_Pc [.ref (a 0), .int (vx)] (PreX D cI cZ (wCA a cI cZ B R E (td)) sz)) (QNo (va_A (wCA a cI cZ B R E (td)) sz)) (XCw D cI cZ (va_A (wCA a cI cZ B R E (td)) sz) (wCA a cI cZ B R E (td)) eI) 1 6 (va_A (wCA a cI cZ B R E (td)) sz) := by
  refine vx_ofW (cc := cX3_paid) (maxL := 2) (ret := (some .int)) (by decide) rfl ?_
  intro p e s m args below meth c s₁ BB hml htb hv
  obtain ⟨rfl, ⟨hsz, hP, hK, hD0⟩, hX, hZ⟩ := hv
  have hx := BB.exec
  have hb := BB.bytes
  have hr := BB.returns
  have hts := atoms_spec (ws := wsX3_paid) BB.pre
  have hown : s.vm.findClass RX3 = some m.cls := findClass_of_methodNamed BB.named
  have hlocks := BB.notSynchronized
  clear BB
  subst hsz
  have hD := hD0.self (sz := s.heap.size)
  clear hD0
  generalize hAe : va_A (wCA a cI cZ B R E (td)) s.heap.size = A at hD hZ ⊢
  have hA : ∀ q : Nat, s.heap.size ≤ q → A q := fun q h => by rw [← hAe]; exact Or.inr h
  clear hAe
  have hl := lv_entry ([.ref (a 0), .int (vx)]) (n := 2) (Nat.le_of_ble_eq_true rfl)
  rw [lg_entry_eq]
  generalize (lg_sl ([.ref (a 0), .int (vx)]) ++ List.replicate (2 - (lg_sl ([.ref (a 0), .int (vx)])).length) Slot.unset).toArray = ls at hl ⊢
  have hl : lv_has ls 2 [(0, .ref (a 0)), (1, .int (vx))] := hl
  generalize hHe : s.heap = H at hP ⊢
  have hS : va_S A s.heap H [] := by rw [← hHe]; exact va_S.rf
  clear hHe
  generalize hLe : ([] : List Loc) = locs at hS ⊢
  clear hLe
  refine lv_aload_n hx hb dX3_paid_0 rfl (lv_at hl 0 rfl) ?_
  refine lv_iload_n hx hb dX3_paid_1 rfl (lv_at hl 1 rfl) ?_
  exact zxV (ci := 3) (q0 := 0) (List.range 26) ⟨hx, hb, hml, hown, hts⟩ (zwAll 26 (by decide) rfl hP hD hS hA) hK hX hZ (x_X3_requireBill l hfl D cI cZ a H.size (B) (R) (E) (td) (vx) h) (cwV 1 hts gX3_paid_X3_requireBill rfl rfl rfl (by decide +kernel) ⟨Nat.le_of_ble_eq_true rfl, Nat.le_of_ble_eq_true rfl⟩) rfl rfl (by decide) rfl rfl hl.1 rfl (Nat.le_of_ble_eq_true rfl) dX3_paid_2 ⟨Nat.le_of_ble_eq_true rfl, Nat.le_of_ble_eq_true rfl⟩ (fun ce q9 H1 locs1 hP hD hS hce hcv hcl => zxo rfl hK htb hlocks (Nat.le_refl _) (Nat.le_refl _) ce q9 H1 locs1 hP hD hS hce hcv hcl)
set_option maxHeartbeats 4000000 in
set_option maxRecDepth 100000 in
theorem x_X3_taken (l : Launch) (hfl : l.stackTraces = false) (D : va_G) (cI cZ : ClassId) (a : Nat → Nat) (sz : Nat) (B : Nat → Nat → Int32) (R : Nat → Nat → Int32) (E : Nat → Nat → Int32) (td : Int32) (vx : Int32) (h : vx < 0 ∨ ¬ vx < B 11 0) : vx_Met l yX3_taken wsX3_taken ({ frames := 7, cells := 1, slots := 6, locals := 111 } : Room) (va_Pc [.ref (a 0), .int (vx)] (PreX D cI cZ (wCA a cI cZ B R E (td)) sz)) (QNo (va_A (wCA a cI cZ B R E (td)) sz)) (XCw D cI cZ (va_A (wCA a cI cZ B R E (td)) sz) (wCA a cI cZ B R E (td)) eI) 1 6 (va_A (wCA a cI cZ B R E (td)) sz) := by
  refine vx_ofW (cc := cX3_taken) (maxL := 2) (ret := (some .int)) (by decide) rfl ?_
  intro p e s m args below meth c s₁ BB hml htb hv
  obtain ⟨rfl, ⟨hsz, hP, hK, hD0⟩, hX, hZ⟩ := hv
  have hx := BB.exec
  have hb := BB.bytes
  have hr := BB.returns
  have hts := atoms_spec (ws := wsX3_taken) BB.pre
  have hown : s.vm.findClass RX3 = some m.cls := findClass_of_methodNamed BB.named
  have hlocks := BB.notSynchronized
  clear BB
  subst hsz
  have hD := hD0.self (sz := s.heap.size)
  clear hD0
  generalize hAe : va_A (wCA a cI cZ B R E (td)) s.heap.size = A at hD hZ ⊢
  have hA : ∀ q : Nat, s.heap.size ≤ q → A q := fun q h => by rw [← hAe]; exact Or.inr h
  clear hAe
  have hl := lv_entry ([.ref (a 0), .int (vx)]) (n := 2) (Nat.le_of_ble_eq_true rfl)
  rw [lg_entry_eq]
  generalize (lg_sl ([.ref (a 0), .int (vx)]) ++ List.replicate (2 - (lg_sl ([.ref (a 0), .int (vx)])).length) Slot.unset).toArray = ls at hl ⊢
  have hl : lv_has ls 2 [(0, .ref (a 0)), (1, .int (vx))] := hl
  generalize hHe : s.heap = H at hP ⊢
  have hS : va_S A s.heap H [] := by rw [← hHe]; exact va_S.rf
  clear hHe
  generalize hLe : ([] : List Loc) = locs at hS ⊢
  clear hLe
  refine lv_aload_n hx hb dX3_taken_0 rfl (lv_at hl 0 rfl) ?_
  refine lv_iload_n hx hb dX3_taken_1 rfl (lv_at hl 1 rfl) ?_
  exact zxV (ci := 3) (q0 := 0) (List.range 26) ⟨hx, hb, hml, hown, hts⟩ (zwAll 26 (by decide) rfl hP hD hS hA) hK hX hZ (x_X3_requireBill l hfl D cI cZ a H.size (B) (R) (E) (td) (vx) h) (cwV 1 hts gX3_taken_X3_requireBill rfl rfl rfl (by decide +kernel) ⟨Nat.le_of_ble_eq_true rfl, Nat.le_of_ble_eq_true rfl⟩) rfl rfl (by decide) rfl rfl hl.1 rfl (Nat.le_of_ble_eq_true rfl) dX3_taken_2 ⟨Nat.le_of_ble_eq_true rfl, Nat.le_of_ble_eq_true rfl⟩ (fun ce q9 H1 locs1 hP hD hS hce hcv hcl => zxo rfl hK htb hlocks (Nat.le_refl _) (Nat.le_refl _) ce q9 H1 locs1 hP hD hS hce hcv hcl)
set_option maxHeartbeats 4000000 in
set_option maxRecDepth 100000 in
theorem x_X3_disputed (l : Launch) (hfl : l.stackTraces = false) (D : va_G) (cI cZ : ClassId) (a : Nat → Nat) (sz : Nat) (B : Nat → Nat → Int32) (R : Nat → Nat → Int32) (E : Nat → Nat → Int32) (td : Int32) (vx : Int32) (h : vx < 0 ∨ ¬ vx < B 11 0) : vx_Met l yX3_disputed wsX3_disputed ({ frames := 7, cells := 1, slots := 6, locals := 111 } : Room) (va_Pc [.ref (a 0), .int (vx)] (PreX D cI cZ (wCA a cI cZ B R E (td)) sz)) (QNo (va_A (wCA a cI cZ B R E (td)) sz)) (XCw D cI cZ (va_A (wCA a cI cZ B R E (td)) sz) (wCA a cI cZ B R E (td)) eI) 1 6 (va_A (wCA a cI cZ B R E (td)) sz) := by
  refine vx_ofW (cc := cX3_disputed) (maxL := 2) (ret := (some .int)) (by decide) rfl ?_
  intro p e s m args below meth c s₁ BB hml htb hv
  obtain ⟨rfl, ⟨hsz, hP, hK, hD0⟩, hX, hZ⟩ := hv
  have hx := BB.exec
  have hb := BB.bytes
  have hr := BB.returns
  have hts := atoms_spec (ws := wsX3_disputed) BB.pre
  have hown : s.vm.findClass RX3 = some m.cls := findClass_of_methodNamed BB.named
  have hlocks := BB.notSynchronized
  clear BB
  subst hsz
  have hD := hD0.self (sz := s.heap.size)
  clear hD0
  generalize hAe : va_A (wCA a cI cZ B R E (td)) s.heap.size = A at hD hZ ⊢
  have hA : ∀ q : Nat, s.heap.size ≤ q → A q := fun q h => by rw [← hAe]; exact Or.inr h
  clear hAe
  have hl := lv_entry ([.ref (a 0), .int (vx)]) (n := 2) (Nat.le_of_ble_eq_true rfl)
  rw [lg_entry_eq]
  generalize (lg_sl ([.ref (a 0), .int (vx)]) ++ List.replicate (2 - (lg_sl ([.ref (a 0), .int (vx)])).length) Slot.unset).toArray = ls at hl ⊢
  have hl : lv_has ls 2 [(0, .ref (a 0)), (1, .int (vx))] := hl
  generalize hHe : s.heap = H at hP ⊢
  have hS : va_S A s.heap H [] := by rw [← hHe]; exact va_S.rf
  clear hHe
  generalize hLe : ([] : List Loc) = locs at hS ⊢
  clear hLe
  refine lv_aload_n hx hb dX3_disputed_0 rfl (lv_at hl 0 rfl) ?_
  refine lv_iload_n hx hb dX3_disputed_1 rfl (lv_at hl 1 rfl) ?_
  exact zxV (ci := 3) (q0 := 0) (List.range 26) ⟨hx, hb, hml, hown, hts⟩ (zwAll 26 (by decide) rfl hP hD hS hA) hK hX hZ (x_X3_requireBill l hfl D cI cZ a H.size (B) (R) (E) (td) (vx) h) (cwV 1 hts gX3_disputed_X3_requireBill rfl rfl rfl (by decide +kernel) ⟨Nat.le_of_ble_eq_true rfl, Nat.le_of_ble_eq_true rfl⟩) rfl rfl (by decide) rfl rfl hl.1 rfl (Nat.le_of_ble_eq_true rfl) dX3_disputed_2 ⟨Nat.le_of_ble_eq_true rfl, Nat.le_of_ble_eq_true rfl⟩ (fun ce q9 H1 locs1 hP hD hS hce hcv hcl => zxo rfl hK htb hlocks (Nat.le_refl _) (Nat.le_refl _) ce q9 H1 locs1 hP hD hS hce hcv hcl)
set_option maxHeartbeats 4000000 in
set_option maxRecDepth 100000 in
theorem x_X3_writtenOff (l : Launch) (hfl : l.stackTraces = false) (D : va_G) (cI cZ : ClassId) (a : Nat → Nat) (sz : Nat) (B : Nat → Nat → Int32) (R : Nat → Nat → Int32) (E : Nat → Nat → Int32) (td : Int32) (vx : Int32) (h : vx < 0 ∨ ¬ vx < B 11 0) : vx_Met l yX3_writtenOff wsX3_writtenOff ({ frames := 7, cells := 1, slots := 6, locals := 111 } : Room) (va_Pc [.ref (a 0), .int (vx)] (PreX D cI cZ (wCA a cI cZ B R E (td)) sz)) (QNo (va_A (wCA a cI cZ B R E (td)) sz)) (XCw D cI cZ (va_A (wCA a cI cZ B R E (td)) sz) (wCA a cI cZ B R E (td)) eI) 1 6 (va_A (wCA a cI cZ B R E (td)) sz) := by
  refine vx_ofW (cc := cX3_writtenOff) (maxL := 2) (ret := (some .int)) (by decide) rfl ?_
  intro p e s m args below meth c s₁ BB hml htb hv
  obtain ⟨rfl, ⟨hsz, hP, hK, hD0⟩, hX, hZ⟩ := hv
  have hx := BB.exec
  have hb := BB.bytes
  have hr := BB.returns
  have hts := atoms_spec (ws := wsX3_writtenOff) BB.pre
  have hown : s.vm.findClass RX3 = some m.cls := findClass_of_methodNamed BB.named
  have hlocks := BB.notSynchronized
  clear BB
  subst hsz
  have hD := hD0.self (sz := s.heap.size)
  clear hD0
  generalize hAe : va_A (wCA a cI cZ B R E (td)) s.heap.size = A at hD hZ ⊢
  have hA : ∀ q : Nat, s.heap.size ≤ q → A q := fun q h => by rw [← hAe]; exact Or.inr h
  clear hAe
  have hl := lv_entry ([.ref (a 0), .int (vx)]) (n := 2) (Nat.le_of_ble_eq_true rfl)
  rw [lg_entry_eq]
  generalize (lg_sl ([.ref (a 0), .int (vx)]) ++ List.replicate (2 - (lg_sl ([.ref (a 0), .int (vx)])).length) Slot.unset).toArray = ls at hl ⊢
  have hl : lv_has ls 2 [(0, .ref (a 0)), (1, .int (vx))] := hl
  generalize hHe : s.heap = H at hP ⊢
  have hS : va_S A s.heap H [] := by rw [← hHe]; exact va_S.rf
  clear hHe
  generalize hLe : ([] : List Loc) = locs at hS ⊢
  clear hLe
  refine lv_aload_n hx hb dX3_writtenOff_0 rfl (lv_at hl 0 rfl) ?_
  refine lv_iload_n hx hb dX3_writtenOff_1 rfl (lv_at hl 1 rfl) ?_
  exact zxV (ci := 3) (q0 := 0) (List.range 26) ⟨hx, hb, hml, hown, hts⟩ (zwAll 26 (by decide) rfl hP hD hS hA) hK hX hZ (x_X3_requireBill l hfl D cI cZ a H.size (B) (R) (E) (td) (vx) h) (cwV 1 hts gX3_writtenOff_X3_requireBill rfl rfl rfl (by decide +kernel) ⟨Nat.le_of_ble_eq_true rfl, Nat.le_of_ble_eq_true rfl⟩) rfl rfl (by decide) rfl rfl hl.1 rfl (Nat.le_of_ble_eq_true rfl) dX3_writtenOff_2 ⟨Nat.le_of_ble_eq_true rfl, Nat.le_of_ble_eq_true rfl⟩ (fun ce q9 H1 locs1 hP hD hS hce hcv hcl => zxo rfl hK htb hlocks (Nat.le_refl _) (Nat.le_refl _) ce q9 H1 locs1 hP hD hS hce hcv hcl)
set_option maxHeartbeats 4000000 in
set_option maxRecDepth 100000 in
theorem x_X3_customerOf (l : Launch) (hfl : l.stackTraces = false) (D : va_G) (cI cZ : ClassId) (a : Nat → Nat) (sz : Nat) (B : Nat → Nat → Int32) (R : Nat → Nat → Int32) (E : Nat → Nat → Int32) (td : Int32) (vx : Int32) (h : vx < 0 ∨ ¬ vx < R 8 0) : vx_Met l yX3_customerOf wsX3_customerOf ({ frames := 7, cells := 1, slots := 6, locals := 111 } : Room) (va_Pc [.ref (a 0), .int (vx)] (PreX D cI cZ (wCA a cI cZ B R E (td)) sz)) (QNo (va_A (wCA a cI cZ B R E (td)) sz)) (XCw D cI cZ (va_A (wCA a cI cZ B R E (td)) sz) (wCA a cI cZ B R E (td)) eI) 1 6 (va_A (wCA a cI cZ B R E (td)) sz) := by
  refine vx_ofW (cc := cX3_customerOf) (maxL := 2) (ret := (some .int)) (by decide) rfl ?_
  intro p e s m args below meth c s₁ BB hml htb hv
  obtain ⟨rfl, ⟨hsz, hP, hK, hD0⟩, hX, hZ⟩ := hv
  have hx := BB.exec
  have hb := BB.bytes
  have hr := BB.returns
  have hts := atoms_spec (ws := wsX3_customerOf) BB.pre
  have hown : s.vm.findClass RX3 = some m.cls := findClass_of_methodNamed BB.named
  have hlocks := BB.notSynchronized
  clear BB
  subst hsz
  have hD := hD0.self (sz := s.heap.size)
  clear hD0
  generalize hAe : va_A (wCA a cI cZ B R E (td)) s.heap.size = A at hD hZ ⊢
  have hA : ∀ q : Nat, s.heap.size ≤ q → A q := fun q h => by rw [← hAe]; exact Or.inr h
  clear hAe
  have hl := lv_entry ([.ref (a 0), .int (vx)]) (n := 2) (Nat.le_of_ble_eq_true rfl)
  rw [lg_entry_eq]
  generalize (lg_sl ([.ref (a 0), .int (vx)]) ++ List.replicate (2 - (lg_sl ([.ref (a 0), .int (vx)])).length) Slot.unset).toArray = ls at hl ⊢
  have hl : lv_has ls 2 [(0, .ref (a 0)), (1, .int (vx))] := hl
  generalize hHe : s.heap = H at hP ⊢
  have hS : va_S A s.heap H [] := by rw [← hHe]; exact va_S.rf
  clear hHe
  generalize hLe : ([] : List Loc) = locs at hS ⊢
  clear hLe
  refine lv_aload_n hx hb dX3_customerOf_0 rfl (lv_at hl 0 rfl) ?_
  refine lv_iload_n hx hb dX3_customerOf_1 rfl (lv_at hl 1 rfl) ?_
  exact zxV (ci := 3) (q0 := 0) (List.range 26) ⟨hx, hb, hml, hown, hts⟩ (zwAll 26 (by decide) rfl hP hD hS hA) hK hX hZ (x_X3_requireReceipt l hfl D cI cZ a H.size (B) (R) (E) (td) (vx) h) (cwV 1 hts gX3_customerOf_X3_requireReceipt rfl rfl rfl (by decide +kernel) ⟨Nat.le_of_ble_eq_true rfl, Nat.le_of_ble_eq_true rfl⟩) rfl rfl (by decide) rfl rfl hl.1 rfl (Nat.le_of_ble_eq_true rfl) dX3_customerOf_2 ⟨Nat.le_of_ble_eq_true rfl, Nat.le_of_ble_eq_true rfl⟩ (fun ce q9 H1 locs1 hP hD hS hce hcv hcl => zxo rfl hK htb hlocks (Nat.le_refl _) (Nat.le_refl _) ce q9 H1 locs1 hP hD hS hce hcv hcl)
set_option maxHeartbeats 4000000 in
set_option maxRecDepth 100000 in
theorem x_X3_unapplied (l : Launch) (hfl : l.stackTraces = false) (D : va_G) (cI cZ : ClassId) (a : Nat → Nat) (sz : Nat) (B : Nat → Nat → Int32) (R : Nat → Nat → Int32) (E : Nat → Nat → Int32) (td : Int32) (vx : Int32) (h : vx < 0 ∨ ¬ vx < R 8 0) : vx_Met l yX3_unapplied wsX3_unapplied ({ frames := 7, cells := 1, slots := 6, locals := 111 } : Room) (va_Pc [.ref (a 0), .int (vx)] (PreX D cI cZ (wCA a cI cZ B R E (td)) sz)) (QNo (va_A (wCA a cI cZ B R E (td)) sz)) (XCw D cI cZ (va_A (wCA a cI cZ B R E (td)) sz) (wCA a cI cZ B R E (td)) eI) 1 6 (va_A (wCA a cI cZ B R E (td)) sz) := by
  refine vx_ofW (cc := cX3_unapplied) (maxL := 2) (ret := (some .int)) (by decide) rfl ?_
  intro p e s m args below meth c s₁ BB hml htb hv
  obtain ⟨rfl, ⟨hsz, hP, hK, hD0⟩, hX, hZ⟩ := hv
  have hx := BB.exec
  have hb := BB.bytes
  have hr := BB.returns
  have hts := atoms_spec (ws := wsX3_unapplied) BB.pre
  have hown : s.vm.findClass RX3 = some m.cls := findClass_of_methodNamed BB.named
  have hlocks := BB.notSynchronized
  clear BB
  subst hsz
  have hD := hD0.self (sz := s.heap.size)
  clear hD0
  generalize hAe : va_A (wCA a cI cZ B R E (td)) s.heap.size = A at hD hZ ⊢
  have hA : ∀ q : Nat, s.heap.size ≤ q → A q := fun q h => by rw [← hAe]; exact Or.inr h
  clear hAe
  have hl := lv_entry ([.ref (a 0), .int (vx)]) (n := 2) (Nat.le_of_ble_eq_true rfl)
  rw [lg_entry_eq]
  generalize (lg_sl ([.ref (a 0), .int (vx)]) ++ List.replicate (2 - (lg_sl ([.ref (a 0), .int (vx)])).length) Slot.unset).toArray = ls at hl ⊢
  have hl : lv_has ls 2 [(0, .ref (a 0)), (1, .int (vx))] := hl
  generalize hHe : s.heap = H at hP ⊢
  have hS : va_S A s.heap H [] := by rw [← hHe]; exact va_S.rf
  clear hHe
  generalize hLe : ([] : List Loc) = locs at hS ⊢
  clear hLe
  refine lv_aload_n hx hb dX3_unapplied_0 rfl (lv_at hl 0 rfl) ?_
  refine lv_iload_n hx hb dX3_unapplied_1 rfl (lv_at hl 1 rfl) ?_
  exact zxV (ci := 3) (q0 := 0) (List.range 26) ⟨hx, hb, hml, hown, hts⟩ (zwAll 26 (by decide) rfl hP hD hS hA) hK hX hZ (x_X3_requireReceipt l hfl D cI cZ a H.size (B) (R) (E) (td) (vx) h) (cwV 1 hts gX3_unapplied_X3_requireReceipt rfl rfl rfl (by decide +kernel) ⟨Nat.le_of_ble_eq_true rfl, Nat.le_of_ble_eq_true rfl⟩) rfl rfl (by decide) rfl rfl hl.1 rfl (Nat.le_of_ble_eq_true rfl) dX3_unapplied_2 ⟨Nat.le_of_ble_eq_true rfl, Nat.le_of_ble_eq_true rfl⟩ (fun ce q9 H1 locs1 hP hD hS hce hcv hcl => zxo rfl hK htb hlocks (Nat.le_refl _) (Nat.le_refl _) ce q9 H1 locs1 hP hD hS hce hcv hcl)
set_option maxHeartbeats 4000000 in
set_option maxRecDepth 100000 in
theorem x_X3_hasBounced (l : Launch) (hfl : l.stackTraces = false) (D : va_G) (cI cZ : ClassId) (a : Nat → Nat) (sz : Nat) (B : Nat → Nat → Int32) (R : Nat → Nat → Int32) (E : Nat → Nat → Int32) (td : Int32) (vx : Int32) (h : vx < 0 ∨ ¬ vx < R 8 0) : vx_Met l yX3_hasBounced wsX3_hasBounced ({ frames := 7, cells := 1, slots := 6, locals := 111 } : Room) (va_Pc [.ref (a 0), .int (vx)] (PreX D cI cZ (wCA a cI cZ B R E (td)) sz)) (QNo (va_A (wCA a cI cZ B R E (td)) sz)) (XCw D cI cZ (va_A (wCA a cI cZ B R E (td)) sz) (wCA a cI cZ B R E (td)) eI) 1 6 (va_A (wCA a cI cZ B R E (td)) sz) := by
  refine vx_ofW (cc := cX3_hasBounced) (maxL := 2) (ret := (some .boolean)) (by decide) rfl ?_
  intro p e s m args below meth c s₁ BB hml htb hv
  obtain ⟨rfl, ⟨hsz, hP, hK, hD0⟩, hX, hZ⟩ := hv
  have hx := BB.exec
  have hb := BB.bytes
  have hr := BB.returns
  have hts := atoms_spec (ws := wsX3_hasBounced) BB.pre
  have hown : s.vm.findClass RX3 = some m.cls := findClass_of_methodNamed BB.named
  have hlocks := BB.notSynchronized
  clear BB
  subst hsz
  have hD := hD0.self (sz := s.heap.size)
  clear hD0
  generalize hAe : va_A (wCA a cI cZ B R E (td)) s.heap.size = A at hD hZ ⊢
  have hA : ∀ q : Nat, s.heap.size ≤ q → A q := fun q h => by rw [← hAe]; exact Or.inr h
  clear hAe
  have hl := lv_entry ([.ref (a 0), .int (vx)]) (n := 2) (Nat.le_of_ble_eq_true rfl)
  rw [lg_entry_eq]
  generalize (lg_sl ([.ref (a 0), .int (vx)]) ++ List.replicate (2 - (lg_sl ([.ref (a 0), .int (vx)])).length) Slot.unset).toArray = ls at hl ⊢
  have hl : lv_has ls 2 [(0, .ref (a 0)), (1, .int (vx))] := hl
  generalize hHe : s.heap = H at hP ⊢
  have hS : va_S A s.heap H [] := by rw [← hHe]; exact va_S.rf
  clear hHe
  generalize hLe : ([] : List Loc) = locs at hS ⊢
  clear hLe
  refine lv_aload_n hx hb dX3_hasBounced_0 rfl (lv_at hl 0 rfl) ?_
  refine lv_iload_n hx hb dX3_hasBounced_1 rfl (lv_at hl 1 rfl) ?_
  exact zxV (ci := 3) (q0 := 0) (List.range 26) ⟨hx, hb, hml, hown, hts⟩ (zwAll 26 (by decide) rfl hP hD hS hA) hK hX hZ (x_X3_requireReceipt l hfl D cI cZ a H.size (B) (R) (E) (td) (vx) h) (cwV 1 hts gX3_hasBounced_X3_requireReceipt rfl rfl rfl (by decide +kernel) ⟨Nat.le_of_ble_eq_true rfl, Nat.le_of_ble_eq_true rfl⟩) rfl rfl (by decide) rfl rfl hl.1 rfl (Nat.le_of_ble_eq_true rfl) dX3_hasBounced_2 ⟨Nat.le_of_ble_eq_true rfl, Nat.le_of_ble_eq_true rfl⟩ (fun ce q9 H1 locs1 hP hD hS hce hcv hcl => zxo rfl hK htb hlocks (Nat.le_refl _) (Nat.le_refl _) ce q9 H1 locs1 hP hD hS hce hcv hcl)
set_option maxHeartbeats 4000000 in
set_option maxRecDepth 100000 in
theorem x_X3_openOf (l : Launch) (hfl : l.stackTraces = false) (D : va_G) (cI cZ : ClassId) (a : Nat → Nat) (sz : Nat) (B : Nat → Nat → Int32) (R : Nat → Nat → Int32) (E : Nat → Nat → Int32) (td : Int32) (cu : Int32) (h : cu < 0 ∨ ¬ cu < 8) : vx_Met l yX3_openOf wsX3_openOf ({ frames := 7, cells := 1, slots := 6, locals := 110 } : Room) (va_Pc [.ref (a 0), .int (cu)] (PreX D cI cZ (wCA a cI cZ B R E (td)) sz)) (QNo (va_A (wCA a cI cZ B R E (td)) sz)) (XCw D cI cZ (va_A (wCA a cI cZ B R E (td)) sz) (wCA a cI cZ B R E (td)) eI) 1 6 (va_A (wCA a cI cZ B R E (td)) sz) := by
  refine vx_ofW (cc := cX3_openOf) (maxL := 4) (ret := (some .int)) (by decide) rfl ?_
  intro p e s m args below meth c s₁ BB hml htb hv
  obtain ⟨rfl, ⟨hsz, hP, hK, hD0⟩, hX, hZ⟩ := hv
  have hx := BB.exec
  have hb := BB.bytes
  have hr := BB.returns
  have hts := atoms_spec (ws := wsX3_openOf) BB.pre
  have hown : s.vm.findClass RX3 = some m.cls := findClass_of_methodNamed BB.named
  have hlocks := BB.notSynchronized
  clear BB
  subst hsz
  have hD := hD0.self (sz := s.heap.size)
  clear hD0
  generalize hAe : va_A (wCA a cI cZ B R E (td)) s.heap.size = A at hD hZ ⊢
  have hA : ∀ q : Nat, s.heap.size ≤ q → A q := fun q h => by rw [← hAe]; exact Or.inr h
  clear hAe
  have hl := lv_entry ([.ref (a 0), .int (cu)]) (n := 4) (Nat.le_of_ble_eq_true rfl)
  rw [lg_entry_eq]
  generalize (lg_sl ([.ref (a 0), .int (cu)]) ++ List.replicate (4 - (lg_sl ([.ref (a 0), .int (cu)])).length) Slot.unset).toArray = ls at hl ⊢
  have hl : lv_has ls 4 [(0, .ref (a 0)), (1, .int (cu))] := hl
  generalize hHe : s.heap = H at hP ⊢
  have hS : va_S A s.heap H [] := by rw [← hHe]; exact va_S.rf
  clear hHe
  generalize hLe : ([] : List Loc) = locs at hS ⊢
  clear hLe
  refine lv_iload_n hx hb dX3_openOf_0 rfl (lv_at hl 1 rfl) ?_
  exact zxS (List.range 26) ⟨hx, hb, hml, hown, hts⟩ (zwNo 26 (by decide) rfl hP hD hS hA) hK hX hZ (x_X3_requireCustomer l hfl D cI cZ a H.size (cu) h) (cwS 1 hts gX3_openOf_X3_requireCustomer rfl rfl rfl (by decide +kernel) ⟨Nat.le_of_ble_eq_true rfl, Nat.le_of_ble_eq_true rfl⟩) (by decide) rfl rfl hl.1 rfl (Nat.le_of_ble_eq_true rfl) dX3_openOf_1 ⟨Nat.le_of_ble_eq_true rfl, Nat.le_of_ble_eq_true rfl⟩ (fun ce q9 H1 locs1 hP hD hS hce hcv hcl => zxo rfl hK htb hlocks (Nat.le_refl _) (Nat.le_refl _) ce q9 H1 locs1 hP hD hS hce hcv hcl)
set_option maxHeartbeats 4000000 in
set_option maxRecDepth 100000 in
theorem x_X3_setFor (l : Launch) (hfl : l.stackTraces = false) (D : va_G) (cI cZ : ClassId) (a : Nat → Nat) (sz : Nat) (B : Nat → Nat → Int32) (R : Nat → Nat → Int32) (E : Nat → Nat → Int32) (td : Int32) (cu : Int32) (sm : Int32) (pl : Int32) (E0 : String) (hk : ¬ stfK cu sm pl = 0) (hE : E0 = exA (stfK cu sm pl)) : vx_Met l yX3_setFor wsX3_setFor ({ frames := 7, cells := 1, slots := 6, locals := 110 } : Room) (va_Pc [.ref (a 0), .int (cu), .int (sm), .int (pl)] (PreX D cI cZ (wCA a cI cZ B R E (td)) sz)) (QNo (va_A (wCA a cI cZ B R E (td)) sz)) (XCw D cI cZ (va_A (wCA a cI cZ B R E (td)) sz) (wCA a cI cZ B R E (td)) E0) 1 6 (va_A (wCA a cI cZ B R E (td)) sz) := by
  refine vx_ofW (cc := cX3_setFor) (maxL := 4) (ret := (some .int)) (by decide) rfl ?_
  intro p e s m args below meth c s₁ BB hml htb hv
  obtain ⟨rfl, ⟨hsz, hP, hK, hD0⟩, hX, hZ⟩ := hv
  have hx := BB.exec
  have hb := BB.bytes
  have hr := BB.returns
  have hts := atoms_spec (ws := wsX3_setFor) BB.pre
  have hown : s.vm.findClass RX3 = some m.cls := findClass_of_methodNamed BB.named
  have hlocks := BB.notSynchronized
  clear BB
  subst hsz
  have hD := hD0.self (sz := s.heap.size)
  clear hD0
  generalize hAe : va_A (wCA a cI cZ B R E (td)) s.heap.size = A at hD hZ ⊢
  have hA : ∀ q : Nat, s.heap.size ≤ q → A q := fun q h => by rw [← hAe]; exact Or.inr h
  clear hAe
  have hl := lv_entry ([.ref (a 0), .int (cu), .int (sm), .int (pl)]) (n := 4) (Nat.le_of_ble_eq_true rfl)
  rw [lg_entry_eq]
  generalize (lg_sl ([.ref (a 0), .int (cu), .int (sm), .int (pl)]) ++ List.replicate (4 - (lg_sl ([.ref (a 0), .int (cu), .int (sm), .int (pl)])).length) Slot.unset).toArray = ls at hl ⊢
  have hl : lv_has ls 4 [(0, .ref (a 0)), (1, .int (cu)), (2, .int (sm)), (3, .int (pl))] := hl
  generalize hHe : s.heap = H at hP ⊢
  have hS : va_S A s.heap H [] := by rw [← hHe]; exact va_S.rf
  clear hHe
  generalize hLe : ([] : List Loc) = locs at hS ⊢
  clear hLe
  refine lv_iload_n hx hb dX3_setFor_0 rfl (lv_at hl 1 rfl) ?_
  by_cases hx1 : cu < 0 ∨ ¬ cu < 8
  · -- 1 throws
    exact zxS (List.range 26) ⟨hx, hb, hml, hown, hts⟩ (zwNo 26 (by decide) rfl hP hD hS hA) hK hX hZ (x_X3_requireCustomer l hfl D cI cZ a H.size (cu) hx1) (cwS 1 hts gX3_setFor_X3_requireCustomer rfl rfl rfl (by decide +kernel) ⟨Nat.le_of_ble_eq_true rfl, Nat.le_of_ble_eq_true rfl⟩) (by decide) rfl rfl hl.1 rfl (Nat.le_of_ble_eq_true rfl) dX3_setFor_1 ⟨Nat.le_of_ble_eq_true rfl, Nat.le_of_ble_eq_true rfl⟩ (fun ce q9 H1 locs1 hP hD hS hce hcv hcl => zxo (by rw [hE, stfK, if_pos (Or.inl hx1)]; rfl) hK htb hlocks (Nat.le_refl _) (Nat.le_refl _) ce q9 H1 locs1 hP hD hS hce hcv hcl)
  · -- 1 on
    refine zcSv (wf := (fun (u : Unit) => (wCA a cI cZ B R E (td)))) (List.range 26) ⟨hx, hb, hml, hown, hts⟩ (zwNo 26 (by decide) rfl hP hD hS hA) hK (c_X3_requireCustomer l D cI cZ a H.size (cu) (n1 hx1) (n2 hx1)) (cwS 1 hts gX3_setFor_X3_requireCustomer rfl rfl rfl (by decide +kernel) ⟨Nat.le_of_ble_eq_true rfl, Nat.le_of_ble_eq_true rfl⟩) (by decide) (fun _ => rfl) rfl hl.1 rfl (Nat.le_of_ble_eq_true rfl) dX3_setFor_1 ⟨Nat.le_of_ble_eq_true rfl, Nat.le_of_ble_eq_true rfl⟩ (fun u H locs hw hP hD hS => ?_)
    refine lv_iload_n hx hb dX3_setFor_4 rfl (lv_at hl 3 rfl) ?_
    refine lv_if_lt (tgt := 13) hx hb dX3_setFor_5 (by decide) (fun c5 => ?_) (fun c5 => ?_)
    · -- 5 taken
      exact zthrow hx hb hfl (cls := eI) (text := "no such place in a set") (ik := 145) (is := 147) (ic := 149) (by decide) (by decide) (by rw [hE, stfK, if_pos (Or.inr (by first | exact Or.inl c5 | exact Or.inr c10))]; rfl) hown (hts (.classLink RX3 145 eI) (by decide +kernel)) (hts (.initialized eI) (by decide +kernel)) (fun w h => hts w ((fun w h => List.mem_cons_of_mem _ (List.mem_append_left _ (List.mem_append_right _ h))) w h)) hgI hbI hX hZ hK hP hD hS hl.1 hml dX3_setFor_13 dX3_setFor_16 ⟨dX3_setFor_17, dX3_setFor_19, dX3_setFor_22⟩ htb (Nat.le_of_ble_eq_true rfl) (Nat.le_of_ble_eq_true rfl) ⟨Nat.le_of_ble_eq_true rfl, Nat.le_of_ble_eq_true rfl⟩ hlocks (Nat.le_refl _) (Nat.le_refl _)
    · -- 5 on
      refine lv_iload_n hx hb dX3_setFor_8 rfl (lv_at hl 3 rfl) ?_
      refine lv_iconst (v := 3) hx hb dX3_setFor_9 (by decide) ?_
      refine lv_icmp_lt (tgt := 23) hx hb dX3_setFor_10 (by decide) (fun c10 => ?_) (fun c10 => ?_)
      · -- 10 taken
        refine lv_iload_n hx hb dX3_setFor_23 rfl (lv_at hl 2 rfl) ?_
        refine lv_iconst (v := 1) hx hb dX3_setFor_24 (by decide) ?_
        refine lv_icmp_ge (tgt := 38) hx hb dX3_setFor_25 (by decide) (fun c25 => ?_) (fun c25 => ?_)
        · -- 25 taken
          exact absurd (by rw [stfK, if_neg (not_or.mpr ⟨hx1, not_or.mpr ⟨c5, fun z => z c10⟩⟩), if_neg (not_lt_of_ge32 c25)]) hk
        · -- 25 on
          exact zthrow hx hb hfl (cls := eA) (text := "the sum is below 1") (ik := 150) (is := 152) (ic := 154) (by decide) (by decide) (by rw [hE, stfK, if_neg (not_or.mpr ⟨hx1, not_or.mpr ⟨c5, fun z => z c10⟩⟩), if_pos (lt_of_nge32 c25)]; rfl) hown (hts (.classLink RX3 150 eA) (by decide +kernel)) (hts (.initialized eA) (by decide +kernel)) (fun w h => hts w ((fun w h => List.mem_cons_of_mem _ (List.mem_append_right _ h)) w h)) hgA hbA hX hZ hK hP hD hS hl.1 hml dX3_setFor_28 dX3_setFor_31 ⟨dX3_setFor_32, dX3_setFor_34, dX3_setFor_37⟩ htb (Nat.le_of_ble_eq_true rfl) (Nat.le_of_ble_eq_true rfl) ⟨Nat.le_of_ble_eq_true rfl, Nat.le_of_ble_eq_true rfl⟩ hlocks (Nat.le_refl _) (Nat.le_refl _)
      · -- 10 on
        exact zthrow hx hb hfl (cls := eI) (text := "no such place in a set") (ik := 145) (is := 147) (ic := 149) (by decide) (by decide) (by rw [hE, stfK, if_pos (Or.inr (by first | exact Or.inl c5 | exact Or.inr c10))]; rfl) hown (hts (.classLink RX3 145 eI) (by decide +kernel)) (hts (.initialized eI) (by decide +kernel)) (fun w h => hts w ((fun w h => List.mem_cons_of_mem _ (List.mem_append_left _ (List.mem_append_right _ h))) w h)) hgI hbI hX hZ hK hP hD hS hl.1 hml dX3_setFor_13 dX3_setFor_16 ⟨dX3_setFor_17, dX3_setFor_19, dX3_setFor_22⟩ htb (Nat.le_of_ble_eq_true rfl) (Nat.le_of_ble_eq_true rfl) ⟨Nat.le_of_ble_eq_true rfl, Nat.le_of_ble_eq_true rfl⟩ hlocks (Nat.le_refl _) (Nat.le_refl _)
set_option maxHeartbeats 4000000 in
set_option maxRecDepth 100000 in
theorem x_X3_appliedTo (l : Launch) (hfl : l.stackTraces = false) (D : va_G) (cI cZ : ClassId) (a : Nat → Nat) (sz : Nat) (B : Nat → Nat → Int32) (R : Nat → Nat → Int32) (E : Nat → Nat → Int32) (td : Int32) (vx : Int32) (vb : Int32) (h : (vx < 0 ∨ ¬ vx < R 8 0) ∨ (vb < 0 ∨ ¬ vb < B 11 0)) : vx_Met l yX3_appliedTo wsX3_appliedTo ({ frames := 7, cells := 1, slots := 6, locals := 111 } : Room) (va_Pc [.ref (a 0), .int (vx), .int (vb)] (PreX D cI cZ (wCA a cI cZ B R E (td)) sz)) (QNo (va_A (wCA a cI cZ B R E (td)) sz)) (XCw D cI cZ (va_A (wCA a cI cZ B R E (td)) sz) (wCA a cI cZ B R E (td)) eI) 1 6 (va_A (wCA a cI cZ B R E (td)) sz) := by
  refine vx_ofW (cc := cX3_appliedTo) (maxL := 3) (ret := (some .int)) (by decide) rfl ?_
  intro p e s m args below meth c s₁ BB hml htb hv
  obtain ⟨rfl, ⟨hsz, hP, hK, hD0⟩, hX, hZ⟩ := hv
  have hx := BB.exec
  have hb := BB.bytes
  have hr := BB.returns
  have hts := atoms_spec (ws := wsX3_appliedTo) BB.pre
  have hown : s.vm.findClass RX3 = some m.cls := findClass_of_methodNamed BB.named
  have hlocks := BB.notSynchronized
  clear BB
  subst hsz
  have hD := hD0.self (sz := s.heap.size)
  clear hD0
  generalize hAe : va_A (wCA a cI cZ B R E (td)) s.heap.size = A at hD hZ ⊢
  have hA : ∀ q : Nat, s.heap.size ≤ q → A q := fun q h => by rw [← hAe]; exact Or.inr h
  clear hAe
  have hl := lv_entry ([.ref (a 0), .int (vx), .int (vb)]) (n := 3) (Nat.le_of_ble_eq_true rfl)
  rw [lg_entry_eq]
  generalize (lg_sl ([.ref (a 0), .int (vx), .int (vb)]) ++ List.replicate (3 - (lg_sl ([.ref (a 0), .int (vx), .int (vb)])).length) Slot.unset).toArray = ls at hl ⊢
  have hl : lv_has ls 3 [(0, .ref (a 0)), (1, .int (vx)), (2, .int (vb))] := hl
  generalize hHe : s.heap = H at hP ⊢
  have hS : va_S A s.heap H [] := by rw [← hHe]; exact va_S.rf
  clear hHe
  generalize hLe : ([] : List Loc) = locs at hS ⊢
  clear hLe
  refine lv_aload_n hx hb dX3_appliedTo_0 rfl (lv_at hl 0 rfl) ?_
  refine lv_iload_n hx hb dX3_appliedTo_1 rfl (lv_at hl 1 rfl) ?_
  by_cases hx2 : vx < 0 ∨ ¬ vx < R 8 0
  · -- 2 throws
    exact zxV (ci := 3) (q0 := 0) (List.range 26) ⟨hx, hb, hml, hown, hts⟩ (zwAll 26 (by decide) rfl hP hD hS hA) hK hX hZ (x_X3_requireReceipt l hfl D cI cZ a H.size (B) (R) (E) (td) (vx) hx2) (cwV 1 hts gX3_appliedTo_X3_requireReceipt rfl rfl rfl (by decide +kernel) ⟨Nat.le_of_ble_eq_true rfl, Nat.le_of_ble_eq_true rfl⟩) rfl rfl (by decide) rfl rfl hl.1 rfl (Nat.le_of_ble_eq_true rfl) dX3_appliedTo_2 ⟨Nat.le_of_ble_eq_true rfl, Nat.le_of_ble_eq_true rfl⟩ (fun ce q9 H1 locs1 hP hD hS hce hcv hcl => zxo rfl hK htb hlocks (Nat.le_refl _) (Nat.le_refl _) ce q9 H1 locs1 hP hD hS hce hcv hcl)
  · -- 2 on
    refine zcVv (ci := 3) (q0 := 0) (wf := (fun (u : Unit) => (wCA a cI cZ B R E (td)))) (List.range 26) ⟨hx, hb, hml, hown, hts⟩ (zwAll 26 (by decide) rfl hP hD hS hA) hK (c_X3_requireReceipt l D cI cZ a H.size (B) (R) (E) (td) (vx) (n1 hx2) (n2 hx2)) (cwV 1 hts gX3_appliedTo_X3_requireReceipt rfl rfl rfl (by decide +kernel) ⟨Nat.le_of_ble_eq_true rfl, Nat.le_of_ble_eq_true rfl⟩) rfl rfl (by decide) (fun _ => rfl) rfl hl.1 rfl (Nat.le_of_ble_eq_true rfl) dX3_appliedTo_2 ⟨Nat.le_of_ble_eq_true rfl, Nat.le_of_ble_eq_true rfl⟩ (fun u H locs hw hP hD hS => ?_)
    refine lv_aload_n hx hb dX3_appliedTo_5 rfl (lv_at hl 0 rfl) ?_
    refine lv_iload_n hx hb dX3_appliedTo_6 rfl (lv_at hl 2 rfl) ?_
    exact zxV (ci := 3) (q0 := 0) (List.range 26) ⟨hx, hb, hml, hown, hts⟩ (zwAll 26 (by decide) rfl hP hD hS hA) hK hX hZ (x_X3_requireBill l hfl D cI cZ a H.size (B) (R) (E) (td) (vb) (h.resolve_left hx2)) (cwV 1 hts gX3_appliedTo_X3_requireBill rfl rfl rfl (by decide +kernel) ⟨Nat.le_of_ble_eq_true rfl, Nat.le_of_ble_eq_true rfl⟩) rfl rfl (by decide) rfl rfl hl.1 rfl (Nat.le_of_ble_eq_true rfl) dX3_appliedTo_7 ⟨Nat.le_of_ble_eq_true rfl, Nat.le_of_ble_eq_true rfl⟩ (fun ce q9 H1 locs1 hP hD hS hce hcv hcl => zxo rfl hK htb hlocks (Nat.le_refl _) (Nat.le_refl _) ce q9 H1 locs1 hP hD hS hce hcv hcl)
