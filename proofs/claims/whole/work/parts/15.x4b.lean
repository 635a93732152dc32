
theorem dn {a b : Prop} (h : ¬ a ∧ b) : ¬ (a ∨ ¬ b) := fun z => z.elim h.1 (fun w => w h.2)
theorem dp {a b : Prop} (h : ¬ (¬ a ∧ b)) : a ∨ ¬ b := by
  by_cases z : a
  · exact Or.inl z
  · exact Or.inr (fun w => h ⟨z, w⟩)
theorem le_of_lt3 {n : Nat} (h : n < 3) : nI n ≤ 2 := (nI_leI (a := n) (b := 2) (by omega) (by omega)).mpr (by omega)
theorem pl3 {x : Int32} (h : ¬ x < 0 ∧ x ≤ 2) : ¬ x < 0 ∧ x < 3 := ⟨h.1, by
  have h1 := Int32.le_iff_toInt_le.mp h.2
  rw [Int32.lt_iff_toInt_lt]
  have e2 : (2 : Int32).toInt = 2 := by decide
  have e3 : (3 : Int32).toInt = 3 := by decide
  omega⟩
theorem pl3r {x : Int32} (h : ¬ x < 0 ∧ x < 3) : ¬ x < 0 ∧ x ≤ 2 := ⟨h.1, by
  have h1 := Int32.lt_iff_toInt_lt.mp h.2
  rw [Int32.le_iff_toInt_le]
  have e2 : (2 : Int32).toInt = 2 := by decide
  have e3 : (3 : Int32).toInt = 3 := by decide
  omega⟩
section BK
variable {n : Nat} {cu am rf rt dy : Int32}
theorem bK1 (h : ¬ (¬ cu < 0 ∧ cu < 8)) : billK n cu am rf rt dy = 1 := if_pos (dp h)
theorem bK2 (h : ¬ cu < 0 ∧ cu < 8) (h2 : ¬ ((¬ am < 1 ∧ am ≤ 1000000) ∧ (¬ rf < 1 ∧ rf ≤ 9999) ∧ (¬ rt < 0 ∧ rt ≤ 10000) ∧ (¬ dy < 0 ∧ dy ≤ 90))) : billK n cu am rf rt dy = 2 := by
  unfold billK
  rw [if_neg (dn h), if_pos]
  by_cases z1 : ¬ am < 1 ∧ am ≤ 1000000
  · by_cases z2 : ¬ rf < 1 ∧ rf ≤ 9999
    · by_cases z3 : ¬ rt < 0 ∧ rt ≤ 10000
      · exact Or.inr (Or.inr (Or.inr (dp (fun z4 => h2 ⟨z1, z2, z3, z4⟩))))
      · exact Or.inr (Or.inr (Or.inl (dp z3)))
    · exact Or.inr (Or.inl (dp z2))
  · exact Or.inl (dp z1)
theorem bK3 (h : ¬ cu < 0 ∧ cu < 8) (h2 : (¬ am < 1 ∧ am ≤ 1000000) ∧ (¬ rf < 1 ∧ rf ≤ 9999) ∧ (¬ rt < 0 ∧ rt ≤ 10000) ∧ (¬ dy < 0 ∧ dy ≤ 90)) (h3 : n = 40) : billK n cu am rf rt dy = 3 := by
  unfold billK
  rw [if_neg (dn h), if_neg (or4n (dn h2.1) (dn h2.2.1) (dn h2.2.2.1) (dn h2.2.2.2)), if_neg (by omega)]
theorem bK0 (h : ¬ cu < 0 ∧ cu < 8) (h2 : (¬ am < 1 ∧ am ≤ 1000000) ∧ (¬ rf < 1 ∧ rf ≤ 9999) ∧ (¬ rt < 0 ∧ rt ≤ 10000) ∧ (¬ dy < 0 ∧ dy ≤ 90)) (h3 : n < 40) : billK n cu am rf rt dy = 0 := by
  unfold billK
  rw [if_neg (dn h), if_neg (or4n (dn h2.1) (dn h2.2.1) (dn h2.2.2.1) (dn h2.2.2.2)), if_pos h3]
theorem rK1 (h1 : ¬ cu = -1) (h : ¬ (¬ cu < 0 ∧ cu < 8)) : rcvK n cu am rf = 1 := if_pos ⟨h1, dp h⟩
theorem rcn (h : cu = -1 ∨ (¬ cu < 0 ∧ cu < 8)) : ¬ (¬ cu = -1 ∧ (cu < 0 ∨ ¬ cu < 8)) := fun z => h.elim z.1 (fun w => dn w z.2)
theorem rK2 (h : cu = -1 ∨ (¬ cu < 0 ∧ cu < 8)) (h2 : ¬ ((¬ am < 1 ∧ am ≤ 1000000) ∧ (¬ rf < 0 ∧ rf ≤ 9999))) : rcvK n cu am rf = 2 := by
  unfold rcvK
  rw [if_neg (rcn h), if_pos]
  by_cases z1 : ¬ am < 1 ∧ am ≤ 1000000
  · exact Or.inr (dp (fun z => h2 ⟨z1, z⟩))
  · exact Or.inl (dp z1)
theorem rK3 (h : cu = -1 ∨ (¬ cu < 0 ∧ cu < 8)) (h2 : (¬ am < 1 ∧ am ≤ 1000000) ∧ (¬ rf < 0 ∧ rf ≤ 9999)) (h3 : n = 30) : rcvK n cu am rf = 3 := by
  unfold rcvK
  rw [if_neg (rcn h), if_neg (not_or.mpr ⟨dn h2.1, dn h2.2⟩), if_neg (by omega)]
theorem rK0 (h : cu = -1 ∨ (¬ cu < 0 ∧ cu < 8)) (h2 : (¬ am < 1 ∧ am ≤ 1000000) ∧ (¬ rf < 0 ∧ rf ≤ 9999)) (h3 : n < 30) : rcvK n cu am rf = 0 := by
  unfold rcvK
  rw [if_neg (rcn h), if_neg (not_or.mpr ⟨dn h2.1, dn h2.2⟩), if_pos h3]
end BK
section KR
variable {R B : Nat → Nat → Int32} {vx cu : Int32}
theorem aplK_2 (h : ¬ (vx < 0 ∨ ¬ vx < R 8 0)) (h2 : ¬ R 5 vx.toNatClampNeg = 0 ∨ R 0 vx.toNatClampNeg = -1) : aplK R vx = 2 := (if_neg h).trans (if_pos h2)
theorem aplK_0 (h : ¬ (vx < 0 ∨ ¬ vx < R 8 0)) (h2 : ¬ (¬ R 5 vx.toNatClampNeg = 0 ∨ R 0 vx.toNatClampNeg = -1)) : aplK R vx = 0 := (if_neg h).trans (if_neg h2)
theorem pbkK_2 (h : ¬ (vx < 0 ∨ ¬ vx < R 8 0)) (h2 : ¬ R 5 vx.toNatClampNeg = 0 ∨ R 3 vx.toNatClampNeg = 0) : pbkK R vx = 2 := (if_neg h).trans (if_pos h2)
theorem pbkK_0 (h : ¬ (vx < 0 ∨ ¬ vx < R 8 0)) (h2 : ¬ (¬ R 5 vx.toNatClampNeg = 0 ∨ R 3 vx.toNatClampNeg = 0)) : pbkK R vx = 0 := (if_neg h).trans (if_neg h2)
theorem bncK_2 (h : ¬ (vx < 0 ∨ ¬ vx < R 8 0)) (h2 : ¬ R 5 vx.toNatClampNeg = 0 ∨ ¬ R 4 vx.toNatClampNeg ≤ 0) : bncK R vx = 2 := (if_neg h).trans (if_pos h2)
theorem bncK_0 (h : ¬ (vx < 0 ∨ ¬ vx < R 8 0)) (h2 : ¬ (¬ R 5 vx.toNatClampNeg = 0 ∨ ¬ R 4 vx.toNatClampNeg ≤ 0)) : bncK R vx = 0 := (if_neg h).trans (if_neg h2)
theorem asgK_2 (h : ¬ (vx < 0 ∨ ¬ vx < R 8 0)) (h1 : ¬ (cu < 0 ∨ ¬ cu < 8)) (h2 : ¬ R 5 vx.toNatClampNeg = 0 ∨ ¬ R 0 vx.toNatClampNeg = -1) : asgK R vx cu = 2 := (if_neg (not_or.mpr ⟨h, h1⟩)).trans (if_pos h2)
theorem asgK_0 (h : ¬ (vx < 0 ∨ ¬ vx < R 8 0)) (h1 : ¬ (cu < 0 ∨ ¬ cu < 8)) (h2 : ¬ (¬ R 5 vx.toNatClampNeg = 0 ∨ ¬ R 0 vx.toNatClampNeg = -1)) : asgK R vx cu = 0 := (if_neg (not_or.mpr ⟨h, h1⟩)).trans (if_neg h2)
theorem stlK_2 (h : ¬ (vx < 0 ∨ ¬ vx < B 11 0)) (h2 : B 8 vx.toNatClampNeg = 0) : stlK B vx = 2 := (if_neg h).trans (if_pos h2)
theorem stlK_0 (h : ¬ (vx < 0 ∨ ¬ vx < B 11 0)) (h2 : ¬ B 8 vx.toNatClampNeg = 0) : stlK B vx = 0 := (if_neg h).trans (if_neg h2)
end KR
/-- the reference's tables in the class's order, as far as a refusal asks -/
def mR (M : Nat → Nat → Int32) : Nat → Nat → Int32 := fun k => if k = 0 then M 17 else if k = 3 then M 18 else if k = 4 then M 19 else if k = 5 then M 20 else M 15
def mB (M : Nat → Nat → Int32) : Nat → Nat → Int32 := fun k => if k = 8 then M 12 else M 2
def mbil (M : Nat → Nat → Int32) (n : Nat) (cu am rf rt dy : Int32) : Nat → Nat → Int32 := pt (pt (pt (pt (pt (pt (pt (pt (pt (pt M 0 0 0) 3 n cu) 4 n am) 5 n rf) 6 n (M 1 0)) 7 n rt) 8 n dy) 11 n (-1)) 13 n (-1)) 2 0 (nI (n + 1))
theorem mnm1_o {rc : Nat} {rf : Int32} {k' i' : Nat} (h : k' ≠ 17) : ∀ {k i : Nat} {M : Nat → Nat → Int32}, mnm1 rc rf k i M k' i' = M k' i'
  | 0, _, _ => rfl
  | k + 1, i, M => by
    rw [mnm1]
    split
    · split
      · rw [mnm1_o h, pt_o (fun z => h z.1)]
      · rw [mnm1_o h, pt_o (fun z => h z.1)]
    · rfl
theorem mnm2_o {rc : Nat} {rf : Int32} {k' i' : Nat} (h : (k' ≠ 9 ∧ k' ≠ 10 ∧ k' ≠ 11 ∧ k' ≠ 18 ∧ k' ≠ 21 ∧ k' ≠ 22) ∧ k' ≠ 12 ∧ k' ≠ 13) : ∀ {k i : Nat} {M : Nat → Nat → Int32}, mnm2 rc rf k i M k' i' = M k' i'
  | 0, _, _ => rfl
  | k + 1, i, M => by
    rw [mnm2]
    split
    · split
      · rw [mnm2_o h, mpay_o h.1]
      · rw [mnm2_o h]
        unfold mdsp
        rw [pt_o (fun z => h.2.2 z.1), pt_o (fun z => h.2.1 z.1), mpay_o h.1]
    · rw [mnm2_o h]
theorem mnam_o {M : Nat → Nat → Int32} {rc : Nat} {rf : Int32} {n k i : Nat} (h : k ≠ 17 ∧ (k ≠ 9 ∧ k ≠ 10 ∧ k ≠ 11 ∧ k ≠ 18 ∧ k ≠ 21 ∧ k ≠ 22) ∧ k ≠ 12 ∧ k ≠ 13) : mnam M rc rf n k i = M k i := by
  unfold mnam
  rw [mnm2_o h.2, mnm1_o h.1]
def mrc0 (M : Nat → Nat → Int32) (q : Nat) (cu am : Int32) : Nat → Nat → Int32 := pt (pt (pt (pt (pt M 0 0 0) 15 0 (nI (q + 1))) 16 q am) 17 q cu) 18 q am
def mrcv (M : Nat → Nat → Int32) (q : Nat) (cu am rf : Int32) (n : Nat) : Nat → Nat → Int32 := if rf ≤ 0 then moth (mrc0 M q cu am) q n else moth (mnam (mrc0 M q cu am) q rf n) q n
def mpbk (M : Nat → Nat → Int32) (rc : Nat) : Nat → Nat → Int32 := pt (pt (pt M 0 0 0) 19 rc (M 19 rc + M 18 rc)) 18 rc 0
def mb1 (M : Nat → Nat → Int32) (rc i : Nat) : Nat → Nat → Int32 := pt (pt M 9 i (M 9 i - M 21 (40 * rc + i))) 21 (40 * rc + i) 0
def mb2 (M : Nat → Nat → Int32) (rc i : Nat) : Nat → Nat → Int32 := if M 11 i = nI rc then pt (pt M 10 i 0) 11 i (-1) else M
def mb3 (M : Nat → Nat → Int32) (rc i : Nat) : Nat → Nat → Int32 := if M 13 i = nI rc then pt (pt M 12 i 0) 13 i (-1) else M
def mbs (M : Nat → Nat → Int32) (rc i : Nat) : Nat → Nat → Int32 := mb3 (mb2 (mb1 M rc i) rc i) rc i
theorem mbs_eq {M T U : Nat → Nat → Int32} {rc i : Nat} (h1 : (mb1 M rc i 11 i = nI rc ∧ T = pt (pt (mb1 M rc i) 10 i 0) 11 i (-1)) ∨ (¬ mb1 M rc i 11 i = nI rc ∧ T = mb1 M rc i)) (h2 : (T 13 i = nI rc ∧ U = pt (pt T 12 i 0) 13 i (-1)) ∨ (¬ T 13 i = nI rc ∧ U = T)) : mbs M rc i = U := by
  have e1 : mb2 (mb1 M rc i) rc i = T := by
    unfold mb2
    rcases h1 with ⟨g, rfl⟩ | ⟨g, rfl⟩
    · exact if_pos g
    · exact if_neg g
  unfold mbs mb3
  rw [e1]
  rcases h2 with ⟨g, rfl⟩ | ⟨g, rfl⟩
  · exact if_pos g
  · exact if_neg g
def mbL (rc : Nat) : Nat → Nat → Nat → (Nat → Nat → Int32) → Nat × (Nat → Nat → Int32)
  | 0, _, uu, M => (uu, M)
  | k + 1, i, uu, M => mbL rc k (i + 1) (if M 22 (40 * rc + i) = 0 then uu else uu + 1) (mbs M rc i)
def mbo (M : Nat → Nat → Int32) (rc n : Nat) : Nat → Nat → Int32 := pt (pt (mbL rc n 0 0 (pt M 0 0 0)).2 18 rc 0) 20 rc 1
def mstl (M : Nat → Nat → Int32) (i : Nat) (zz : Int32) : Nat → Nat → Int32 := if zz = 0 then pt (pt (pt (pt M 0 0 0) 14 i (M 14 i + 0)) 12 i 0) 13 i (-1) else pt (pt (pt (pt M 0 0 0) 14 i (M 14 i + M 12 i)) 12 i 0) 13 i (-1)
def moo (M : Nat → Nat → Int32) (cu : Int32) : Nat → Int32
  | 0 => 0
  | k + 1 => if M 3 k = cu then moo M cu k + mopn M k else moo M cu k + 0
def mstf (M : Nat → Nat → Int32) (cu : Int32) (sm : Int64) (n pl : Nat) : Int32 := if pl < mcN (mcs (pt M 0 0 0) cu sm n) then mcS (pt M 0 0 0) (mcs (pt M 0 0 0) cu sm n) 23 pl else -1
set_option maxHeartbeats 4000000 in
set_option maxRecDepth 100000 in
theorem c_X4_bill_0 (l : Launch) (D : va_G) (cI cZ : ClassId) (a : Nat → Nat) (sz : Nat) (M : Nat → Nat → Int32) (n : Nat) (cu : Int32) (am : Int32) (rf : Int32) (rt : Int32) (dy : Int32) (hM : M 2 0 = nI n) (hn : n < 40) (h1 : ¬ cu < 0) (h2 : cu < 8) (h3 : ¬ am < 1) (h4 : am ≤ 1000000) (h5 : ¬ rf < 1) (h6 : rf ≤ 9999) (h7 : ¬ rt < 0) (h8 : rt ≤ 10000) (h9 : ¬ dy < 0) (h10 : dy ≤ 90) : Met l yX4_bill wsX4_bill ({ frames := 2, cells := 0, slots := 0, locals := 42 } : Room) (va_Pc [.ref (a 0), .int (cu), .int (am), .int (rf), .int (rt), .int (dy)] (PreW D cI cZ (wM a cI cZ M) sz)) (va_Qi (fun (r : Int32) (u : Nat → Nat → Int32) => r = nI n ∧ u = mbil M n cu am rf rt dy) (fun (u : Nat → Nat → Int32) => PostW D cI cZ (va_A (wM a cI cZ M) sz) (wM a cI cZ u)) (va_A (wM a cI cZ M) sz)) 0 0 (va_A (wM a cI cZ M) sz) := by
  refine Met.ofW (cc := cX4_bill) (maxL := 7) (ret := (some .int)) (by decide) rfl ?_
  intro p e s m args below meth c s₁ BB hml hv
  obtain ⟨rfl, hsz, hP, hK, hD0⟩ := hv
  have hx := BB.exec
  have hb := BB.bytes
  have hr := BB.returns
  have hts := atoms_spec (ws := wsX4_bill) BB.pre
  have hown : s.vm.findClass RX4 = some m.cls := findClass_of_methodNamed BB.named
  have hlocks := BB.notSynchronized
  clear BB
  subst hsz
  have hD := hD0.self (sz := s.heap.size)
  clear hD0
  generalize hAe : va_A (wM a cI cZ M) s.heap.size = A at hD ⊢
  have hA : ∀ q : Nat, s.heap.size ≤ q → A q := fun q h => by rw [← hAe]; exact Or.inr h
  clear hAe
  have hS : va_S A s.heap s.heap [] := va_S.rf
  have hl := lv_entry ([.ref (a 0), .int (cu), .int (am), .int (rf), .int (rt), .int (dy)]) (n := 7) (Nat.le_of_ble_eq_true rfl)
  rw [lg_entry_eq]
  generalize (lg_sl ([.ref (a 0), .int (cu), .int (am), .int (rf), .int (rt), .int (dy)]) ++ List.replicate (7 - (lg_sl ([.ref (a 0), .int (cu), .int (am), .int (rf), .int (rt), .int (dy)])).length) Slot.unset).toArray = ls at hl ⊢
  have hl : lv_has ls 7 [(0, .ref (a 0)), (1, .int (cu)), (2, .int (am)), (3, .int (rf)), (4, .int (rt)), (5, .int (dy))] := hl
  generalize hHe : s.heap = H at hP
  have hS : va_S A s.heap H [] := by rw [← hHe]; exact va_S.rf
  clear hHe
  generalize hLe : ([] : List Loc) = locs at hS ⊢
  clear hLe
  refine lv_iload_n hx hb dX4_bill_0 rfl (lv_at hl 2 rfl) ?_
  refine lv_iconst (v := 1) hx hb dX4_bill_1 (by decide) ?_
  refine lv_ldc (v := 1000000) hx hb hown (hts (.constant RX4 120 (1000000)) (by decide +kernel)) dX4_bill_2 ?_
  refine zcSi (wf := (fun (u : Unit) => (wM a cI cZ M))) (List.range 21) ⟨hx, hb, hml, hown, hts⟩ (zwNo 21 (by decide) rfl hP hD hS hA) hK (c_X4_in l D cI cZ a H.size (am) (1) (1000000) ) (cwS 3 hts gX4_bill_X4_in rfl rfl rfl (by decide +kernel) ⟨Nat.le_of_ble_eq_true rfl, Nat.le_of_ble_eq_true rfl⟩) (by decide) (fun _ => rfl) rfl hl.1 rfl (Nat.le_of_ble_eq_true rfl) dX4_bill_4 ⟨Nat.le_of_ble_eq_true rfl, Nat.le_of_ble_eq_true rfl⟩ (fun r4 u H locs hw hP hD hS => ?_)
  subst hw
  refine lv_if_eq (tgt := 48) hx hb dX4_bill_7 (by decide) (fun c7 => ?_) (fun c7 => ?_)
  · -- 7 taken
    have c7 := b2_0 c7
    exact absurd ⟨h3, h4⟩ c7
  · -- 7 on
    have c7 := b2_1 c7
    refine lv_iload_n hx hb dX4_bill_10 rfl (lv_at hl 3 rfl) ?_
    refine lv_iconst (v := 1) hx hb dX4_bill_11 (by decide) ?_
    refine lv_sipush (v := 9999) hx hb dX4_bill_12 (by decide) ?_
    refine zcSi (wf := (fun (u : Unit) => (wM a cI cZ M))) (List.range 21) ⟨hx, hb, hml, hown, hts⟩ (zwNo 21 (by decide) rfl hP hD hS hA) hK (c_X4_in l D cI cZ a H.size (rf) (1) (9999) ) (cwS 3 hts gX4_bill_X4_in rfl rfl rfl (by decide +kernel) ⟨Nat.le_of_ble_eq_true rfl, Nat.le_of_ble_eq_true rfl⟩) (by decide) (fun _ => rfl) rfl hl.1 rfl (Nat.le_of_ble_eq_true rfl) dX4_bill_15 ⟨Nat.le_of_ble_eq_true rfl, Nat.le_of_ble_eq_true rfl⟩ (fun r15 u H locs hw hP hD hS => ?_)
    subst hw
    refine lv_if_eq (tgt := 48) hx hb dX4_bill_18 (by decide) (fun c18 => ?_) (fun c18 => ?_)
    · -- 18 taken
      have c18 := b2_0 c18
      exact absurd ⟨h5, h6⟩ c18
    · -- 18 on
      have c18 := b2_1 c18
      refine lv_iload hx hb dX4_bill_21 (lv_at hl 4 rfl) ?_
      refine lv_iconst (v := 0) hx hb dX4_bill_23 (by decide) ?_
      refine lv_sipush (v := 10000) hx hb dX4_bill_24 (by decide) ?_
      refine zcSi (wf := (fun (u : Unit) => (wM a cI cZ M))) (List.range 21) ⟨hx, hb, hml, hown, hts⟩ (zwNo 21 (by decide) rfl hP hD hS hA) hK (c_X4_in l D cI cZ a H.size (rt) (0) (10000) ) (cwS 3 hts gX4_bill_X4_in rfl rfl rfl (by decide +kernel) ⟨Nat.le_of_ble_eq_true rfl, Nat.le_of_ble_eq_true rfl⟩) (by decide) (fun _ => rfl) rfl hl.1 rfl (Nat.le_of_ble_eq_true rfl) dX4_bill_27 ⟨Nat.le_of_ble_eq_true rfl, Nat.le_of_ble_eq_true rfl⟩ (fun r27 u H locs hw hP hD hS => ?_)
      subst hw
      refine lv_if_eq (tgt := 48) hx hb dX4_bill_30 (by decide) (fun c30 => ?_) (fun c30 => ?_)
      · -- 30 taken
        have c30 := b2_0 c30
        exact absurd ⟨h7, h8⟩ c30
      · -- 30 on
        have c30 := b2_1 c30
        refine lv_iload hx hb dX4_bill_33 (lv_at hl 5 rfl) ?_
        refine lv_iconst (v := 0) hx hb dX4_bill_35 (by decide) ?_
        refine lv_bipush (v := 90) hx hb dX4_bill_36 (by decide) ?_
        refine zcSi (wf := (fun (u : Unit) => (wM a cI cZ M))) (List.range 21) ⟨hx, hb, hml, hown, hts⟩ (zwNo 21 (by decide) rfl hP hD hS hA) hK (c_X4_in l D cI cZ a H.size (dy) (0) (90) ) (cwS 3 hts gX4_bill_X4_in rfl rfl rfl (by decide +kernel) ⟨Nat.le_of_ble_eq_true rfl, Nat.le_of_ble_eq_true rfl⟩) (by decide) (fun _ => rfl) rfl hl.1 rfl (Nat.le_of_ble_eq_true rfl) dX4_bill_38 ⟨Nat.le_of_ble_eq_true rfl, Nat.le_of_ble_eq_true rfl⟩ (fun r38 u H locs hw hP hD hS => ?_)
        subst hw
        refine lv_if_eq (tgt := 48) hx hb dX4_bill_41 (by decide) (fun c41 => ?_) (fun c41 => ?_)
        · -- 41 taken
          have c41 := b2_0 c41
          exact absurd ⟨h9, h10⟩ c41
        · -- 41 on
          have c41 := b2_1 c41
          refine lv_iconst (v := 1) hx hb dX4_bill_44 (by decide) ?_
          refine lv_goto (tgt := 49) hx hb dX4_bill_45 (by decide) ?_
          refine lv_istore (lv' := [(6, .int (1)), (0, .ref (a 0)), (1, .int (cu)), (2, .int (am)), (3, .int (rf)), (4, .int (rt)), (5, .int (dy))]) hx hb dX4_bill_49 hl (by decide) rfl (fun ls hl => ?_)
          refine lv_aload_n hx hb dX4_bill_51 rfl (lv_at hl 1 rfl) ?_
          refine lv_iload_n hx hb dX4_bill_52 rfl (lv_at hl 2 rfl) ?_
          refine zcSi (wf := (fun (u : Unit) => (wM a cI cZ M))) (List.range 21) ⟨hx, hb, hml, hown, hts⟩ (zwNo 21 (by decide) rfl hP hD hS hA) hK (c_X4_isCustomer l D cI cZ a H.size (cu) ) (cwS 1 hts gX4_bill_X4_isCustomer rfl rfl rfl (by decide +kernel) ⟨Nat.le_of_ble_eq_true rfl, Nat.le_of_ble_eq_true rfl⟩) (by decide) (fun _ => rfl) rfl hl.1 rfl (Nat.le_of_ble_eq_true rfl) dX4_bill_53 ⟨Nat.le_of_ble_eq_true rfl, Nat.le_of_ble_eq_true rfl⟩ (fun r53 u H locs hw hP hD hS => ?_)
          subst hw
          refine lv_if_ne (tgt := 63) hx hb dX4_bill_56 (by decide) (fun c56 => ?_) (fun c56 => ?_)
          · -- 56 taken
            have c56 := b2_1 c56
            refine lv_iload hx hb dX4_bill_63 (lv_at hl 0 rfl) ?_
            refine lv_if_ne (tgt := 72) hx hb dX4_bill_65 (by decide) (fun c65 => ?_) (fun c65 => ?_)
            · -- 65 taken
              refine lv_aload_n hx hb dX4_bill_72 rfl (lv_at hl 1 rfl) ?_
              refine va_get (D := D) (ci := 4) (v := .int (nI (n))) (C := RX4) (T := TX4) (N := 24) hx hb hts (fun w h => List.mem_cons_of_mem _ (List.mem_append_right _ h)) hown hK hP 0 rfl rfl 2 (by decide) (hts (.fieldLink RX4 79 "CashAllocatorModel" "bills" "I") (by decide +kernel)) (fun _ h9 => h9) (congrArg (fun z => some (Value.int z)) hM) dX4_bill_73 ?_
              refine lv_bipush (v := nI (40)) hx hb dX4_bill_76 (by decide) ?_
              refine lv_icmp_ne (tgt := 85) hx hb dX4_bill_78 (by decide) (fun c78 => ?_) (fun c78 => ?_)
              · -- 78 taken
                rw [nI_eq (by omega) (by omega)] at c78
                refine lv_iconst (v := 0) hx hb dX4_bill_85 (by decide) ?_
                refine zcVi (ci := 4) (q0 := 0) (wf := (fun (u : Nat → Nat → Int32) => (wM a cI cZ u))) (List.range 21) ⟨hx, hb, hml, hown, hts⟩ (zwAll 21 (by decide) rfl hP hD hS hA) hK (c_X4_refused_0 l D cI cZ a H.size (M) (0) (by first | rfl | decide)) (cwV 1 hts gX4_bill_X4_refused rfl rfl rfl (by decide +kernel) ⟨Nat.le_of_ble_eq_true rfl, Nat.le_of_ble_eq_true rfl⟩) rfl rfl (by decide) (fun _ => rfl) rfl hl.1 rfl (Nat.le_of_ble_eq_true rfl) dX4_bill_86 ⟨Nat.le_of_ble_eq_true rfl, Nat.le_of_ble_eq_true rfl⟩ (fun r86 u H locs hw hP hD hS => ?_)
                obtain ⟨rfl, rfl⟩ := hw
                have hP : va_P D vwCl (wM a cI cZ (pt (M) 0 0 0)) H := hP
                have hD : va_D A (wM a cI cZ (pt (M) 0 0 0)) := hD
                refine lv_if_eq (tgt := 94) hx hb dX4_bill_89 (by decide) (fun c89 => ?_) (fun c89 => ?_)
                · -- 89 taken
                  refine lv_aload_n hx hb dX4_bill_94 rfl (lv_at hl 1 rfl) ?_
                  refine va_get (D := D) (ci := 4) (v := .ref (a 1)) (C := RX4) (T := TX4) (N := 24) hx hb hts (fun w h => List.mem_cons_of_mem _ (List.mem_append_right _ h)) hown hK hP 0 rfl rfl 3 (by decide) (hts (.fieldLink RX4 7 "CashAllocatorModel" "owners" "[I") (by decide +kernel)) (fun _ h9 => h9) rfl dX4_bill_95 ?_
                  refine lv_aload_n hx hb dX4_bill_98 rfl (lv_at hl 1 rfl) ?_
                  refine va_get (D := D) (ci := 4) (v := .int (nI (n))) (C := RX4) (T := TX4) (N := 24) hx hb hts (fun w h => List.mem_cons_of_mem _ (List.mem_append_right _ h)) hown hK hP 0 rfl rfl 2 (by decide) (hts (.fieldLink RX4 79 "CashAllocatorModel" "bills" "I") (by decide +kernel)) (fun _ h9 => h9) (congrArg (fun z => some (Value.int z)) hM) dX4_bill_99 ?_
                  refine lv_iload_n hx hb dX4_bill_102 rfl (lv_at hl 2 rfl) ?_
                  refine zast hx hb hK hP hD hS 1 (n := 40) (f := ((pt (M) 0 0 0) 3)) rfl (n) rfl (by omega) (by decide) (wM a cI cZ (pt (pt (M) 0 0 0) 3 (n) (cu))) rfl dX4_bill_103 (fun H locs hP hD hS => ?_)
                  refine lv_aload_n hx hb dX4_bill_104 rfl (lv_at hl 1 rfl) ?_
                  refine va_get (D := D) (ci := 4) (v := .ref (a 2)) (C := RX4) (T := TX4) (N := 24) hx hb hts (fun w h => List.mem_cons_of_mem _ (List.mem_append_right _ h)) hown hK hP 0 rfl rfl 4 (by decide) (hts (.fieldLink RX4 13 "CashAllocatorModel" "amounts" "[I") (by decide +kernel)) (fun _ h9 => h9) rfl dX4_bill_105 ?_
                  refine lv_aload_n hx hb dX4_bill_108 rfl (lv_at hl 1 rfl) ?_
                  refine va_get (D := D) (ci := 4) (v := .int (nI (n))) (C := RX4) (T := TX4) (N := 24) hx hb hts (fun w h => List.mem_cons_of_mem _ (List.mem_append_right _ h)) hown hK hP 0 rfl rfl 2 (by decide) (hts (.fieldLink RX4 79 "CashAllocatorModel" "bills" "I") (by decide +kernel)) (fun _ h9 => h9) (congrArg (fun z => some (Value.int z)) hM) dX4_bill_109 ?_
                  refine lv_iload_n hx hb dX4_bill_112 rfl (lv_at hl 3 rfl) ?_
                  refine zast hx hb hK hP hD hS 2 (n := 40) (f := ((pt (M) 0 0 0) 4)) rfl (n) rfl (by omega) (by decide) (wM a cI cZ (pt (pt (pt (M) 0 0 0) 3 (n) (cu)) 4 (n) (am))) rfl dX4_bill_113 (fun H locs hP hD hS => ?_)
                  refine lv_aload_n hx hb dX4_bill_114 rfl (lv_at hl 1 rfl) ?_
                  refine va_get (D := D) (ci := 4) (v := .ref (a 3)) (C := RX4) (T := TX4) (N := 24) hx hb hts (fun w h => List.mem_cons_of_mem _ (List.mem_append_right _ h)) hown hK hP 0 rfl rfl 5 (by decide) (hts (.fieldLink RX4 16 "CashAllocatorModel" "references" "[I") (by decide +kernel)) (fun _ h9 => h9) rfl dX4_bill_115 ?_
                  refine lv_aload_n hx hb dX4_bill_118 rfl (lv_at hl 1 rfl) ?_
                  refine va_get (D := D) (ci := 4) (v := .int (nI (n))) (C := RX4) (T := TX4) (N := 24) hx hb hts (fun w h => List.mem_cons_of_mem _ (List.mem_append_right _ h)) hown hK hP 0 rfl rfl 2 (by decide) (hts (.fieldLink RX4 79 "CashAllocatorModel" "bills" "I") (by decide +kernel)) (fun _ h9 => h9) (congrArg (fun z => some (Value.int z)) hM) dX4_bill_119 ?_
                  refine lv_iload_n hx hb dX4_bill_122 rfl (lv_at hl 4 rfl) ?_
                  refine zast hx hb hK hP hD hS 3 (n := 40) (f := ((pt (M) 0 0 0) 5)) rfl (n) rfl (by omega) (by decide) (wM a cI cZ (pt (pt (pt (pt (M) 0 0 0) 3 (n) (cu)) 4 (n) (am)) 5 (n) (rf))) rfl dX4_bill_123 (fun H locs hP hD hS => ?_)
                  refine lv_aload_n hx hb dX4_bill_124 rfl (lv_at hl 1 rfl) ?_
                  refine va_get (D := D) (ci := 4) (v := .ref (a 4)) (C := RX4) (T := TX4) (N := 24) hx hb hts (fun w h => List.mem_cons_of_mem _ (List.mem_append_right _ h)) hown hK hP 0 rfl rfl 6 (by decide) (hts (.fieldLink RX4 19 "CashAllocatorModel" "days" "[I") (by decide +kernel)) (fun _ h9 => h9) rfl dX4_bill_125 ?_
                  refine lv_aload_n hx hb dX4_bill_128 rfl (lv_at hl 1 rfl) ?_
                  refine va_get (D := D) (ci := 4) (v := .int (nI (n))) (C := RX4) (T := TX4) (N := 24) hx hb hts (fun w h => List.mem_cons_of_mem _ (List.mem_append_right _ h)) hown hK hP 0 rfl rfl 2 (by decide) (hts (.fieldLink RX4 79 "CashAllocatorModel" "bills" "I") (by decide +kernel)) (fun _ h9 => h9) (congrArg (fun z => some (Value.int z)) hM) dX4_bill_129 ?_
                  refine lv_aload_n hx hb dX4_bill_132 rfl (lv_at hl 1 rfl) ?_
                  refine va_get (D := D) (ci := 4) (v := .int ((pt (M) 0 0 0) 1 (0))) (C := RX4) (T := TX4) (N := 24) hx hb hts (fun w h => List.mem_cons_of_mem _ (List.mem_append_right _ h)) hown hK hP 0 rfl rfl 1 (by decide) (hts (.fieldLink RX4 89 "CashAllocatorModel" "day" "I") (by decide +kernel)) (fun _ h9 => h9) rfl dX4_bill_133 ?_
                  refine zast hx hb hK hP hD hS 4 (n := 40) (f := ((pt (M) 0 0 0) 6)) rfl (n) rfl (by omega) (by decide) (wM a cI cZ (pt (pt (pt (pt (pt (M) 0 0 0) 3 (n) (cu)) 4 (n) (am)) 5 (n) (rf)) 6 (n) ((pt (M) 0 0 0) 1 (0)))) rfl dX4_bill_136 (fun H locs hP hD hS => ?_)
                  refine lv_aload_n hx hb dX4_bill_137 rfl (lv_at hl 1 rfl) ?_
                  refine va_get (D := D) (ci := 4) (v := .ref (a 5)) (C := RX4) (T := TX4) (N := 24) hx hb hts (fun w h => List.mem_cons_of_mem _ (List.mem_append_right _ h)) hown hK hP 0 rfl rfl 7 (by decide) (hts (.fieldLink RX4 22 "CashAllocatorModel" "rates" "[I") (by decide +kernel)) (fun _ h9 => h9) rfl dX4_bill_138 ?_
                  refine lv_aload_n hx hb dX4_bill_141 rfl (lv_at hl 1 rfl) ?_
                  refine va_get (D := D) (ci := 4) (v := .int (nI (n))) (C := RX4) (T := TX4) (N := 24) hx hb hts (fun w h => List.mem_cons_of_mem _ (List.mem_append_right _ h)) hown hK hP 0 rfl rfl 2 (by decide) (hts (.fieldLink RX4 79 "CashAllocatorModel" "bills" "I") (by decide +kernel)) (fun _ h9 => h9) (congrArg (fun z => some (Value.int z)) hM) dX4_bill_142 ?_
                  refine lv_iload hx hb dX4_bill_145 (lv_at hl 5 rfl) ?_
                  refine zast hx hb hK hP hD hS 5 (n := 40) (f := ((pt (M) 0 0 0) 7)) rfl (n) rfl (by omega) (by decide) (wM a cI cZ (pt (pt (pt (pt (pt (pt (M) 0 0 0) 3 (n) (cu)) 4 (n) (am)) 5 (n) (rf)) 6 (n) ((pt (M) 0 0 0) 1 (0))) 7 (n) (rt))) rfl dX4_bill_147 (fun H locs hP hD hS => ?_)
                  refine lv_aload_n hx hb dX4_bill_148 rfl (lv_at hl 1 rfl) ?_
                  refine va_get (D := D) (ci := 4) (v := .ref (a 6)) (C := RX4) (T := TX4) (N := 24) hx hb hts (fun w h => List.mem_cons_of_mem _ (List.mem_append_right _ h)) hown hK hP 0 rfl rfl 8 (by decide) (hts (.fieldLink RX4 25 "CashAllocatorModel" "spans" "[I") (by decide +kernel)) (fun _ h9 => h9) rfl dX4_bill_149 ?_
                  refine lv_aload_n hx hb dX4_bill_152 rfl (lv_at hl 1 rfl) ?_
                  refine va_get (D := D) (ci := 4) (v := .int (nI (n))) (C := RX4) (T := TX4) (N := 24) hx hb hts (fun w h => List.mem_cons_of_mem _ (List.mem_append_right _ h)) hown hK hP 0 rfl rfl 2 (by decide) (hts (.fieldLink RX4 79 "CashAllocatorModel" "bills" "I") (by decide +kernel)) (fun _ h9 => h9) (congrArg (fun z => some (Value.int z)) hM) dX4_bill_153 ?_
                  refine lv_iload hx hb dX4_bill_156 (lv_at hl 6 rfl) ?_
                  refine zast hx hb hK hP hD hS 6 (n := 40) (f := ((pt (M) 0 0 0) 8)) rfl (n) rfl (by omega) (by decide) (wM a cI cZ (pt (pt (pt (pt (pt (pt (pt (M) 0 0 0) 3 (n) (cu)) 4 (n) (am)) 5 (n) (rf)) 6 (n) ((pt (M) 0 0 0) 1 (0))) 7 (n) (rt)) 8 (n) (dy))) rfl dX4_bill_158 (fun H locs hP hD hS => ?_)
                  refine lv_aload_n hx hb dX4_bill_159 rfl (lv_at hl 1 rfl) ?_
                  refine va_get (D := D) (ci := 4) (v := .ref (a 9)) (C := RX4) (T := TX4) (N := 24) hx hb hts (fun w h => List.mem_cons_of_mem _ (List.mem_append_right _ h)) hown hK hP 0 rfl rfl 11 (by decide) (hts (.fieldLink RX4 34 "CashAllocatorModel" "takers" "[I") (by decide +kernel)) (fun _ h9 => h9) rfl dX4_bill_160 ?_
                  refine lv_aload_n hx hb dX4_bill_163 rfl (lv_at hl 1 rfl) ?_
                  refine va_get (D := D) (ci := 4) (v := .int (nI (n))) (C := RX4) (T := TX4) (N := 24) hx hb hts (fun w h => List.mem_cons_of_mem _ (List.mem_append_right _ h)) hown hK hP 0 rfl rfl 2 (by decide) (hts (.fieldLink RX4 79 "CashAllocatorModel" "bills" "I") (by decide +kernel)) (fun _ h9 => h9) (congrArg (fun z => some (Value.int z)) hM) dX4_bill_164 ?_
                  refine lv_iconst (v := (-1)) hx hb dX4_bill_167 (by decide) ?_
                  refine zast hx hb hK hP hD hS 9 (n := 40) (f := ((pt (M) 0 0 0) 11)) rfl (n) rfl (by omega) (by decide) (wM a cI cZ (pt (pt (pt (pt (pt (pt (pt (pt (M) 0 0 0) 3 (n) (cu)) 4 (n) (am)) 5 (n) (rf)) 6 (n) ((pt (M) 0 0 0) 1 (0))) 7 (n) (rt)) 8 (n) (dy)) 11 (n) ((-1)))) rfl dX4_bill_168 (fun H locs hP hD hS => ?_)
                  refine lv_aload_n hx hb dX4_bill_169 rfl (lv_at hl 1 rfl) ?_
                  refine va_get (D := D) (ci := 4) (v := .ref (a 11)) (C := RX4) (T := TX4) (N := 24) hx hb hts (fun w h => List.mem_cons_of_mem _ (List.mem_append_right _ h)) hown hK hP 0 rfl rfl 13 (by decide) (hts (.fieldLink RX4 40 "CashAllocatorModel" "raisers" "[I") (by decide +kernel)) (fun _ h9 => h9) rfl dX4_bill_170 ?_
                  refine lv_aload_n hx hb dX4_bill_173 rfl (lv_at hl 1 rfl) ?_
                  refine va_get (D := D) (ci := 4) (v := .int (nI (n))) (C := RX4) (T := TX4) (N := 24) hx hb hts (fun w h => List.mem_cons_of_mem _ (List.mem_append_right _ h)) hown hK hP 0 rfl rfl 2 (by decide) (hts (.fieldLink RX4 79 "CashAllocatorModel" "bills" "I") (by decide +kernel)) (fun _ h9 => h9) (congrArg (fun z => some (Value.int z)) hM) dX4_bill_174 ?_
                  refine lv_iconst (v := (-1)) hx hb dX4_bill_177 (by decide) ?_
                  refine zast hx hb hK hP hD hS 11 (n := 40) (f := ((pt (M) 0 0 0) 13)) rfl (n) rfl (by omega) (by decide) (wM a cI cZ (pt (pt (pt (pt (pt (pt (pt (pt (pt (M) 0 0 0) 3 (n) (cu)) 4 (n) (am)) 5 (n) (rf)) 6 (n) ((pt (M) 0 0 0) 1 (0))) 7 (n) (rt)) 8 (n) (dy)) 11 (n) ((-1))) 13 (n) ((-1)))) rfl dX4_bill_178 (fun H locs hP hD hS => ?_)
                  refine lv_aload_n hx hb dX4_bill_179 rfl (lv_at hl 1 rfl) ?_
                  refine lv_dup hx hb dX4_bill_180 rfl ?_
                  refine va_get (D := D) (ci := 4) (v := .int (nI (n))) (C := RX4) (T := TX4) (N := 24) hx hb hts (fun w h => List.mem_cons_of_mem _ (List.mem_append_right _ h)) hown hK hP 0 rfl rfl 2 (by decide) (hts (.fieldLink RX4 79 "CashAllocatorModel" "bills" "I") (by decide +kernel)) (fun _ h9 => h9) (congrArg (fun z => some (Value.int z)) hM) dX4_bill_181 ?_
                  refine lv_iconst (v := 1) hx hb dX4_bill_184 (by decide) ?_
                  refine lv_iadd hx hb dX4_bill_185 ?_
                  rw [nI_1]
                  refine va_put (D := D) (ci := 4) (v := .int (nI (n + 1))) (ty := .int) (C := RX4) (T := TX4) (N := 24) hx hb hts (fun w h => List.mem_cons_of_mem _ (List.mem_append_right _ h)) tyX4 tyX4_ok nmX4 hown hK hP hD hS 0 rfl rfl 2 (by decide) (hts (.fieldLink RX4 79 "CashAllocatorModel" "bills" "I") (by decide +kernel)) (fun _ h9 => h9) rfl (by decide +kernel) rfl rfl (Nat.le_of_ble_eq_true rfl) dX4_bill_186 (fun H locs hP hD hS => ?_)
                  have hP : va_P D vwCl (wM a cI cZ (pt (pt (pt (pt (pt (pt (pt (pt (pt (pt (M) 0 0 0) 3 (n) (cu)) 4 (n) (am)) 5 (n) (rf)) 6 (n) ((pt (M) 0 0 0) 1 (0))) 7 (n) (rt)) 8 (n) (dy)) 11 (n) ((-1))) 13 (n) ((-1))) 2 (0) (nI (n + 1)))) H := hP
                  have hD : va_D A (wM a cI cZ (pt (pt (pt (pt (pt (pt (pt (pt (pt (pt (M) 0 0 0) 3 (n) (cu)) 4 (n) (am)) 5 (n) (rf)) 6 (n) ((pt (M) 0 0 0) 1 (0))) 7 (n) (rt)) 8 (n) (dy)) 11 (n) ((-1))) 13 (n) ((-1))) 2 (0) (nI (n + 1)))) := hD
                  refine lv_aload_n hx hb dX4_bill_189 rfl (lv_at hl 1 rfl) ?_
                  refine va_get (D := D) (ci := 4) (v := .int (nI (n + 1))) (C := RX4) (T := TX4) (N := 24) hx hb hts (fun w h => List.mem_cons_of_mem _ (List.mem_append_right _ h)) hown hK hP 0 rfl rfl 2 (by decide) (hts (.fieldLink RX4 79 "CashAllocatorModel" "bills" "I") (by decide +kernel)) (fun _ h9 => h9) rfl dX4_bill_190 ?_
                  refine lv_iconst (v := 1) hx hb dX4_bill_193 (by decide) ?_
                  refine lv_isub hx hb dX4_bill_194 ?_
                  rw [nI_pred]
                  exact W.iret (v := nI (n)) hx hb hr (fun t ht hW => ⟨⟨nI (n), (pt (pt (pt (pt (pt (pt (pt (pt (pt (pt (M) 0 0 0) 3 (n) (cu)) 4 (n) (am)) 5 (n) (rf)) 6 (n) ((pt (M) 0 0 0) 1 (0))) 7 (n) (rt)) 8 (n) (dy)) 11 (n) ((-1))) 13 (n) ((-1))) 2 (0) (nI (n + 1))), rfl, ⟨rfl, rfl⟩, by rw [ht]; exact hP, va_K.moved hW.alike hK, hD⟩, hS.F ht⟩) hS.2.2 dX4_bill_195
                · -- 89 on
                  exact absurd c89 (by decide)
              · -- 78 on
                rw [nI_eq (by omega) (by omega)] at c78
                exact absurd c78 (by omega)
            · -- 65 on
              exact absurd c65 (by decide)
          · -- 56 on
            have c56 := b2_0 c56
            exact absurd ⟨h1, h2⟩ c56
set_option maxHeartbeats 4000000 in
set_option maxRecDepth 100000 in
theorem c_X4_bill_k (l : Launch) (D : va_G) (cI cZ : ClassId) (a : Nat → Nat) (sz : Nat) (M : Nat → Nat → Int32) (n : Nat) (cu : Int32) (am : Int32) (rf : Int32) (rt : Int32) (dy : Int32) (hM : M 2 0 = nI n) (hn : n ≤ 40) (hk : ¬ billK n cu am rf rt dy = 0) : Met l yX4_bill wsX4_bill ({ frames := 2, cells := 0, slots := 0, locals := 42 } : Room) (va_Pc [.ref (a 0), .int (cu), .int (am), .int (rf), .int (rt), .int (dy)] (PreW D cI cZ (wM a cI cZ M) sz)) (va_Qi (fun (r : Int32) (u : Nat → Nat → Int32) => r = 0 ∧ u = pt M 0 0 (nI (billK n cu am rf rt dy))) (fun (u : Nat → Nat → Int32) => PostW D cI cZ (va_A (wM a cI cZ M) sz) (wM a cI cZ u)) (va_A (wM a cI cZ M) sz)) 0 0 (va_A (wM a cI cZ M) sz) := by
  refine Met.ofW (cc := cX4_bill) (maxL := 7) (ret := (some .int)) (by decide) rfl ?_
  intro p e s m args below meth c s₁ BB hml hv
  obtain ⟨rfl, hsz, hP, hK, hD0⟩ := hv
  have hx := BB.exec
  have hb := BB.bytes
  have hr := BB.returns
  have hts := atoms_spec (ws := wsX4_bill) BB.pre
  have hown : s.vm.findClass RX4 = some m.cls := findClass_of_methodNamed BB.named
  have hlocks := BB.notSynchronized
  clear BB
  subst hsz
  have hD := hD0.self (sz := s.heap.size)
  clear hD0
  generalize hAe : va_A (wM a cI cZ M) s.heap.size = A at hD ⊢
  have hA : ∀ q : Nat, s.heap.size ≤ q → A q := fun q h => by rw [← hAe]; exact Or.inr h
  clear hAe
  have hS : va_S A s.heap s.heap [] := va_S.rf
  have hl := lv_entry ([.ref (a 0), .int (cu), .int (am), .int (rf), .int (rt), .int (dy)]) (n := 7) (Nat.le_of_ble_eq_true rfl)
  rw [lg_entry_eq]
  generalize (lg_sl ([.ref (a 0), .int (cu), .int (am), .int (rf), .int (rt), .int (dy)]) ++ List.replicate (7 - (lg_sl ([.ref (a 0), .int (cu), .int (am), .int (rf), .int (rt), .int (dy)])).length) Slot.unset).toArray = ls at hl ⊢
  have hl : lv_has ls 7 [(0, .ref (a 0)), (1, .int (cu)), (2, .int (am)), (3, .int (rf)), (4, .int (rt)), (5, .int (dy))] := hl
  generalize hHe : s.heap = H at hP
  have hS : va_S A s.heap H [] := by rw [← hHe]; exact va_S.rf
  clear hHe
  generalize hLe : ([] : List Loc) = locs at hS ⊢
  clear hLe
  refine lv_iload_n hx hb dX4_bill_0 rfl (lv_at hl 2 rfl) ?_
  refine lv_iconst (v := 1) hx hb dX4_bill_1 (by decide) ?_
  refine lv_ldc (v := 1000000) hx hb hown (hts (.constant RX4 120 (1000000)) (by decide +kernel)) dX4_bill_2 ?_
  refine zcSi (wf := (fun (u : Unit) => (wM a cI cZ M))) (List.range 21) ⟨hx, hb, hml, hown, hts⟩ (zwNo 21 (by decide) rfl hP hD hS hA) hK (c_X4_in l D cI cZ a H.size (am) (1) (1000000) ) (cwS 3 hts gX4_bill_X4_in rfl rfl rfl (by decide +kernel) ⟨Nat.le_of_ble_eq_true rfl, Nat.le_of_ble_eq_true rfl⟩) (by decide) (fun _ => rfl) rfl hl.1 rfl (Nat.le_of_ble_eq_true rfl) dX4_bill_4 ⟨Nat.le_of_ble_eq_true rfl, Nat.le_of_ble_eq_true rfl⟩ (fun r4 u H locs hw hP hD hS => ?_)
  subst hw
  refine lv_if_eq (tgt := 48) hx hb dX4_bill_7 (by decide) (fun c7 => ?_) (fun c7 => ?_)
  · -- 7 taken
    have c7 := b2_0 c7
    refine lv_iconst (v := 0) hx hb dX4_bill_48 (by decide) ?_
    refine lv_istore (lv' := [(6, .int (0)), (0, .ref (a 0)), (1, .int (cu)), (2, .int (am)), (3, .int (rf)), (4, .int (rt)), (5, .int (dy))]) hx hb dX4_bill_49 hl (by decide) rfl (fun ls hl => ?_)
    refine lv_aload_n hx hb dX4_bill_51 rfl (lv_at hl 1 rfl) ?_
    refine lv_iload_n hx hb dX4_bill_52 rfl (lv_at hl 2 rfl) ?_
    refine zcSi (wf := (fun (u : Unit) => (wM a cI cZ M))) (List.range 21) ⟨hx, hb, hml, hown, hts⟩ (zwNo 21 (by decide) rfl hP hD hS hA) hK (c_X4_isCustomer l D cI cZ a H.size (cu) ) (cwS 1 hts gX4_bill_X4_isCustomer rfl rfl rfl (by decide +kernel) ⟨Nat.le_of_ble_eq_true rfl, Nat.le_of_ble_eq_true rfl⟩) (by decide) (fun _ => rfl) rfl hl.1 rfl (Nat.le_of_ble_eq_true rfl) dX4_bill_53 ⟨Nat.le_of_ble_eq_true rfl, Nat.le_of_ble_eq_true rfl⟩ (fun r53 u H locs hw hP hD hS => ?_)
    subst hw
    refine lv_if_ne (tgt := 63) hx hb dX4_bill_56 (by decide) (fun c56 => ?_) (fun c56 => ?_)
    · -- 56 taken
      have c56 := b2_1 c56
      refine lv_iload hx hb dX4_bill_63 (lv_at hl 0 rfl) ?_
      refine lv_if_ne (tgt := 72) hx hb dX4_bill_65 (by decide) (fun c65 => ?_) (fun c65 => ?_)
      · -- 65 taken
        exact absurd c65 (by decide)
      · -- 65 on
        refine lv_iconst (v := 2) hx hb dX4_bill_68 (by decide) ?_
        refine lv_goto (tgt := 86) hx hb dX4_bill_69 (by decide) ?_
        refine zcVi (ci := 4) (q0 := 0) (wf := (fun (u : Nat → Nat → Int32) => (wM a cI cZ u))) (List.range 21) ⟨hx, hb, hml, hown, hts⟩ (zwAll 21 (by decide) rfl hP hD hS hA) hK (c_X4_refused_k l D cI cZ a H.size (M) (2) (by first | rfl | decide)) (cwV 1 hts gX4_bill_X4_refused rfl rfl rfl (by decide +kernel) ⟨Nat.le_of_ble_eq_true rfl, Nat.le_of_ble_eq_true rfl⟩) rfl rfl (by decide) (fun _ => rfl) rfl hl.1 rfl (Nat.le_of_ble_eq_true rfl) dX4_bill_86 ⟨Nat.le_of_ble_eq_true rfl, Nat.le_of_ble_eq_true rfl⟩ (fun r86 u H locs hw hP hD hS => ?_)
        obtain ⟨rfl, rfl⟩ := hw
        have hP : va_P D vwCl (wM a cI cZ (pt (M) 0 0 (2))) H := hP
        have hD : va_D A (wM a cI cZ (pt (M) 0 0 (2))) := hD
        refine lv_if_eq (tgt := 94) hx hb dX4_bill_89 (by decide) (fun c89 => ?_) (fun c89 => ?_)
        · -- 89 taken
          exact absurd c89 (by decide)
        · -- 89 on
          refine lv_iconst (v := 0) hx hb dX4_bill_92 (by decide) ?_
          exact W.iret (v := 0) hx hb hr (fun t ht hW => ⟨⟨0, (pt (M) 0 0 (2)), rfl, ⟨rfl, by rw [bK2 c56 (fun z => c7 z.1)]; rfl⟩, by rw [ht]; exact hP, va_K.moved hW.alike hK, hD⟩, hS.F ht⟩) hS.2.2 dX4_bill_93
    · -- 56 on
      have c56 := b2_0 c56
      refine lv_iconst (v := 1) hx hb dX4_bill_59 (by decide) ?_
      refine lv_goto (tgt := 86) hx hb dX4_bill_60 (by decide) ?_
      refine zcVi (ci := 4) (q0 := 0) (wf := (fun (u : Nat → Nat → Int32) => (wM a cI cZ u))) (List.range 21) ⟨hx, hb, hml, hown, hts⟩ (zwAll 21 (by decide) rfl hP hD hS hA) hK (c_X4_refused_k l D cI cZ a H.size (M) (1) (by first | rfl | decide)) (cwV 1 hts gX4_bill_X4_refused rfl rfl rfl (by decide +kernel) ⟨Nat.le_of_ble_eq_true rfl, Nat.le_of_ble_eq_true rfl⟩) rfl rfl (by decide) (fun _ => rfl) rfl hl.1 rfl (Nat.le_of_ble_eq_true rfl) dX4_bill_86 ⟨Nat.le_of_ble_eq_true rfl, Nat.le_of_ble_eq_true rfl⟩ (fun r86 u H locs hw hP hD hS => ?_)
      obtain ⟨rfl, rfl⟩ := hw
      have hP : va_P D vwCl (wM a cI cZ (pt (M) 0 0 (1))) H := hP
      have hD : va_D A (wM a cI cZ (pt (M) 0 0 (1))) := hD
      refine lv_if_eq (tgt := 94) hx hb dX4_bill_89 (by decide) (fun c89 => ?_) (fun c89 => ?_)
      · -- 89 taken
        exact absurd c89 (by decide)
      · -- 89 on
        refine lv_iconst (v := 0) hx hb dX4_bill_92 (by decide) ?_
        exact W.iret (v := 0) hx hb hr (fun t ht hW => ⟨⟨0, (pt (M) 0 0 (1)), rfl, ⟨rfl, by rw [bK1 c56]; rfl⟩, by rw [ht]; exact hP, va_K.moved hW.alike hK, hD⟩, hS.F ht⟩) hS.2.2 dX4_bill_93
  · -- 7 on
    have c7 := b2_1 c7
    refine lv_iload_n hx hb dX4_bill_10 rfl (lv_at hl 3 rfl) ?_
    refine lv_iconst (v := 1) hx hb dX4_bill_11 (by decide) ?_
    refine lv_sipush (v := 9999) hx hb dX4_bill_12 (by decide) ?_
    refine zcSi (wf := (fun (u : Unit) => (wM a cI cZ M))) (List.range 21) ⟨hx, hb, hml, hown, hts⟩ (zwNo 21 (by decide) rfl hP hD hS hA) hK (c_X4_in l D cI cZ a H.size (rf) (1) (9999) ) (cwS 3 hts gX4_bill_X4_in rfl rfl rfl (by decide +kernel) ⟨Nat.le_of_ble_eq_true rfl, Nat.le_of_ble_eq_true rfl⟩) (by decide) (fun _ => rfl) rfl hl.1 rfl (Nat.le_of_ble_eq_true rfl) dX4_bill_15 ⟨Nat.le_of_ble_eq_true rfl, Nat.le_of_ble_eq_true rfl⟩ (fun r15 u H locs hw hP hD hS => ?_)
    subst hw
    refine lv_if_eq (tgt := 48) hx hb dX4_bill_18 (by decide) (fun c18 => ?_) (fun c18 => ?_)
    · -- 18 taken
      have c18 := b2_0 c18
      refine lv_iconst (v := 0) hx hb dX4_bill_48 (by decide) ?_
      refine lv_istore (lv' := [(6, .int (0)), (0, .ref (a 0)), (1, .int (cu)), (2, .int (am)), (3, .int (rf)), (4, .int (rt)), (5, .int (dy))]) hx hb dX4_bill_49 hl (by decide) rfl (fun ls hl => ?_)
      refine lv_aload_n hx hb dX4_bill_51 rfl (lv_at hl 1 rfl) ?_
      refine lv_iload_n hx hb dX4_bill_52 rfl (lv_at hl 2 rfl) ?_
      refine zcSi (wf := (fun (u : Unit) => (wM a cI cZ M))) (List.range 21) ⟨hx, hb, hml, hown, hts⟩ (zwNo 21 (by decide) rfl hP hD hS hA) hK (c_X4_isCustomer l D cI cZ a H.size (cu) ) (cwS 1 hts gX4_bill_X4_isCustomer rfl rfl rfl (by decide +kernel) ⟨Nat.le_of_ble_eq_true rfl, Nat.le_of_ble_eq_true rfl⟩) (by decide) (fun _ => rfl) rfl hl.1 rfl (Nat.le_of_ble_eq_true rfl) dX4_bill_53 ⟨Nat.le_of_ble_eq_true rfl, Nat.le_of_ble_eq_true rfl⟩ (fun r53 u H locs hw hP hD hS => ?_)
      subst hw
      refine lv_if_ne (tgt := 63) hx hb dX4_bill_56 (by decide) (fun c56 => ?_) (fun c56 => ?_)
      · -- 56 taken
        have c56 := b2_1 c56
        refine lv_iload hx hb dX4_bill_63 (lv_at hl 0 rfl) ?_
        refine lv_if_ne (tgt := 72) hx hb dX4_bill_65 (by decide) (fun c65 => ?_) (fun c65 => ?_)
        · -- 65 taken
          exact absurd c65 (by decide)
        · -- 65 on
          refine lv_iconst (v := 2) hx hb dX4_bill_68 (by decide) ?_
          refine lv_goto (tgt := 86) hx hb dX4_bill_69 (by decide) ?_
          refine zcVi (ci := 4) (q0 := 0) (wf := (fun (u : Nat → Nat → Int32) => (wM a cI cZ u))) (List.range 21) ⟨hx, hb, hml, hown, hts⟩ (zwAll 21 (by decide) rfl hP hD hS hA) hK (c_X4_refused_k l D cI cZ a H.size (M) (2) (by first | rfl | decide)) (cwV 1 hts gX4_bill_X4_refused rfl rfl rfl (by decide +kernel) ⟨Nat.le_of_ble_eq_true rfl, Nat.le_of_ble_eq_true rfl⟩) rfl rfl (by decide) (fun _ => rfl) rfl hl.1 rfl (Nat.le_of_ble_eq_true rfl) dX4_bill_86 ⟨Nat.le_of_ble_eq_true rfl, Nat.le_of_ble_eq_true rfl⟩ (fun r86 u H locs hw hP hD hS => ?_)
          obtain ⟨rfl, rfl⟩ := hw
          have hP : va_P D vwCl (wM a cI cZ (pt (M) 0 0 (2))) H := hP
          have hD : va_D A (wM a cI cZ (pt (M) 0 0 (2))) := hD
          refine lv_if_eq (tgt := 94) hx hb dX4_bill_89 (by decide) (fun c89 => ?_) (fun c89 => ?_)
          · -- 89 taken
            exact absurd c89 (by decide)
          · -- 89 on
            refine lv_iconst (v := 0) hx hb dX4_bill_92 (by decide) ?_
            exact W.iret (v := 0) hx hb hr (fun t ht hW => ⟨⟨0, (pt (M) 0 0 (2)), rfl, ⟨rfl, by rw [bK2 c56 (fun z => c18 z.2.1)]; rfl⟩, by rw [ht]; exact hP, va_K.moved hW.alike hK, hD⟩, hS.F ht⟩) hS.2.2 dX4_bill_93
      · -- 56 on
        have c56 := b2_0 c56
        refine lv_iconst (v := 1) hx hb dX4_bill_59 (by decide) ?_
        refine lv_goto (tgt := 86) hx hb dX4_bill_60 (by decide) ?_
        refine zcVi (ci := 4) (q0 := 0) (wf := (fun (u : Nat → Nat → Int32) => (wM a cI cZ u))) (List.range 21) ⟨hx, hb, hml, hown, hts⟩ (zwAll 21 (by decide) rfl hP hD hS hA) hK (c_X4_refused_k l D cI cZ a H.size (M) (1) (by first | rfl | decide)) (cwV 1 hts gX4_bill_X4_refused rfl rfl rfl (by decide +kernel) ⟨Nat.le_of_ble_eq_true rfl, Nat.le_of_ble_eq_true rfl⟩) rfl rfl (by decide) (fun _ => rfl) rfl hl.1 rfl (Nat.le_of_ble_eq_true rfl) dX4_bill_86 ⟨Nat.le_of_ble_eq_true rfl, Nat.le_of_ble_eq_true rfl⟩ (fun r86 u H locs hw hP hD hS => ?_)
        obtain ⟨rfl, rfl⟩ := hw
        have hP : va_P D vwCl (wM a cI cZ (pt (M) 0 0 (1))) H := hP
        have hD : va_D A (wM a cI cZ (pt (M) 0 0 (1))) := hD
        refine lv_if_eq (tgt := 94) hx hb dX4_bill_89 (by decide) (fun c89 => ?_) (fun c89 => ?_)
        · -- 89 taken
          exact absurd c89 (by decide)
        · -- 89 on
          refine lv_iconst (v := 0) hx hb dX4_bill_92 (by decide) ?_
          exact W.iret (v := 0) hx hb hr (fun t ht hW => ⟨⟨0, (pt (M) 0 0 (1)), rfl, ⟨rfl, by rw [bK1 c56]; rfl⟩, by rw [ht]; exact hP, va_K.moved hW.alike hK, hD⟩, hS.F ht⟩) hS.2.2 dX4_bill_93
    · -- 18 on
      have c18 := b2_1 c18
      refine lv_iload hx hb dX4_bill_21 (lv_at hl 4 rfl) ?_
      refine lv_iconst (v := 0) hx hb dX4_bill_23 (by decide) ?_
      refine lv_sipush (v := 10000) hx hb dX4_bill_24 (by decide) ?_
      refine zcSi (wf := (fun (u : Unit) => (wM a cI cZ M))) (List.range 21) ⟨hx, hb, hml, hown, hts⟩ (zwNo 21 (by decide) rfl hP hD hS hA) hK (c_X4_in l D cI cZ a H.size (rt) (0) (10000) ) (cwS 3 hts gX4_bill_X4_in rfl rfl rfl (by decide +kernel) ⟨Nat.le_of_ble_eq_true rfl, Nat.le_of_ble_eq_true rfl⟩) (by decide) (fun _ => rfl) rfl hl.1 rfl (Nat.le_of_ble_eq_true rfl) dX4_bill_27 ⟨Nat.le_of_ble_eq_true rfl, Nat.le_of_ble_eq_true rfl⟩ (fun r27 u H locs hw hP hD hS => ?_)
      subst hw
      refine lv_if_eq (tgt := 48) hx hb dX4_bill_30 (by decide) (fun c30 => ?_) (fun c30 => ?_)
      · -- 30 taken
        have c30 := b2_0 c30
        refine lv_iconst (v := 0) hx hb dX4_bill_48 (by decide) ?_
        refine lv_istore (lv' := [(6, .int (0)), (0, .ref (a 0)), (1, .int (cu)), (2, .int (am)), (3, .int (rf)), (4, .int (rt)), (5, .int (dy))]) hx hb dX4_bill_49 hl (by decide) rfl (fun ls hl => ?_)
        refine lv_aload_n hx hb dX4_bill_51 rfl (lv_at hl 1 rfl) ?_
        refine lv_iload_n hx hb dX4_bill_52 rfl (lv_at hl 2 rfl) ?_
        refine zcSi (wf := (fun (u : Unit) => (wM a cI cZ M))) (List.range 21) ⟨hx, hb, hml, hown, hts⟩ (zwNo 21 (by decide) rfl hP hD hS hA) hK (c_X4_isCustomer l D cI cZ a H.size (cu) ) (cwS 1 hts gX4_bill_X4_isCustomer rfl rfl rfl (by decide +kernel) ⟨Nat.le_of_ble_eq_true rfl, Nat.le_of_ble_eq_true rfl⟩) (by decide) (fun _ => rfl) rfl hl.1 rfl (Nat.le_of_ble_eq_true rfl) dX4_bill_53 ⟨Nat.le_of_ble_eq_true rfl, Nat.le_of_ble_eq_true rfl⟩ (fun r53 u H locs hw hP hD hS => ?_)
        subst hw
        refine lv_if_ne (tgt := 63) hx hb dX4_bill_56 (by decide) (fun c56 => ?_) (fun c56 => ?_)
        · -- 56 taken
          have c56 := b2_1 c56
          refine lv_iload hx hb dX4_bill_63 (lv_at hl 0 rfl) ?_
          refine lv_if_ne (tgt := 72) hx hb dX4_bill_65 (by decide) (fun c65 => ?_) (fun c65 => ?_)
          · -- 65 taken
            exact absurd c65 (by decide)
          · -- 65 on
            refine lv_iconst (v := 2) hx hb dX4_bill_68 (by decide) ?_
            refine lv_goto (tgt := 86) hx hb dX4_bill_69 (by decide) ?_
            refine zcVi (ci := 4) (q0 := 0) (wf := (fun (u : Nat → Nat → Int32) => (wM a cI cZ u))) (List.range 21) ⟨hx, hb, hml, hown, hts⟩ (zwAll 21 (by decide) rfl hP hD hS hA) hK (c_X4_refused_k l D cI cZ a H.size (M) (2) (by first | rfl | decide)) (cwV 1 hts gX4_bill_X4_refused rfl rfl rfl (by decide +kernel) ⟨Nat.le_of_ble_eq_true rfl, Nat.le_of_ble_eq_true rfl⟩) rfl rfl (by decide) (fun _ => rfl) rfl hl.1 rfl (Nat.le_of_ble_eq_true rfl) dX4_bill_86 ⟨Nat.le_of_ble_eq_true rfl, Nat.le_of_ble_eq_true rfl⟩ (fun r86 u H locs hw hP hD hS => ?_)
            obtain ⟨rfl, rfl⟩ := hw
            have hP : va_P D vwCl (wM a cI cZ (pt (M) 0 0 (2))) H := hP
            have hD : va_D A (wM a cI cZ (pt (M) 0 0 (2))) := hD
            refine lv_if_eq (tgt := 94) hx hb dX4_bill_89 (by decide) (fun c89 => ?_) (fun c89 => ?_)
            · -- 89 taken
              exact absurd c89 (by decide)
            · -- 89 on
              refine lv_iconst (v := 0) hx hb dX4_bill_92 (by decide) ?_
              exact W.iret (v := 0) hx hb hr (fun t ht hW => ⟨⟨0, (pt (M) 0 0 (2)), rfl, ⟨rfl, by rw [bK2 c56 (fun z => c30 z.2.2.1)]; rfl⟩, by rw [ht]; exact hP, va_K.moved hW.alike hK, hD⟩, hS.F ht⟩) hS.2.2 dX4_bill_93
        · -- 56 on
          have c56 := b2_0 c56
          refine lv_iconst (v := 1) hx hb dX4_bill_59 (by decide) ?_
          refine lv_goto (tgt := 86) hx hb dX4_bill_60 (by decide) ?_
          refine zcVi (ci := 4) (q0 := 0) (wf := (fun (u : Nat → Nat → Int32) => (wM a cI cZ u))) (List.range 21) ⟨hx, hb, hml, hown, hts⟩ (zwAll 21 (by decide) rfl hP hD hS hA) hK (c_X4_refused_k l D cI cZ a H.size (M) (1) (by first | rfl | decide)) (cwV 1 hts gX4_bill_X4_refused rfl rfl rfl (by decide +kernel) ⟨Nat.le_of_ble_eq_true rfl, Nat.le_of_ble_eq_true rfl⟩) rfl rfl (by decide) (fun _ => rfl) rfl hl.1 rfl (Nat.le_of_ble_eq_true rfl) dX4_bill_86 ⟨Nat.le_of_ble_eq_true rfl, Nat.le_of_ble_eq_true rfl⟩ (fun r86 u H locs hw hP hD hS => ?_)
          obtain ⟨rfl, rfl⟩ := hw
          have hP : va_P D vwCl (wM a cI cZ (pt (M) 0 0 (1))) H := hP
          have hD : va_D A (wM a cI cZ (pt (M) 0 0 (1))) := hD
          refine lv_if_eq (tgt := 94) hx hb dX4_bill_89 (by decide) (fun c89 => ?_) (fun c89 => ?_)
          · -- 89 taken
            exact absurd c89 (by decide)
          · -- 89 on
            refine lv_iconst (v := 0) hx hb dX4_bill_92 (by decide) ?_
            exact W.iret (v := 0) hx hb hr (fun t ht hW => ⟨⟨0, (pt (M) 0 0 (1)), rfl, ⟨rfl, by rw [bK1 c56]; rfl⟩, by rw [ht]; exact hP, va_K.moved hW.alike hK, hD⟩, hS.F ht⟩) hS.2.2 dX4_bill_93
      · -- 30 on
        have c30 := b2_1 c30
        refine lv_iload hx hb dX4_bill_33 (lv_at hl 5 rfl) ?_
        refine lv_iconst (v := 0) hx hb dX4_bill_35 (by decide) ?_
        refine lv_bipush (v := 90) hx hb dX4_bill_36 (by decide) ?_
        refine zcSi (wf := (fun (u : Unit) => (wM a cI cZ M))) (List.range 21) ⟨hx, hb, hml, hown, hts⟩ (zwNo 21 (by decide) rfl hP hD hS hA) hK (c_X4_in l D cI cZ a H.size (dy) (0) (90) ) (cwS 3 hts gX4_bill_X4_in rfl rfl rfl (by decide +kernel) ⟨Nat.le_of_ble_eq_true rfl, Nat.le_of_ble_eq_true rfl⟩) (by decide) (fun _ => rfl) rfl hl.1 rfl (Nat.le_of_ble_eq_true rfl) dX4_bill_38 ⟨Nat.le_of_ble_eq_true rfl, Nat.le_of_ble_eq_true rfl⟩ (fun r38 u H locs hw hP hD hS => ?_)
        subst hw
        refine lv_if_eq (tgt := 48) hx hb dX4_bill_41 (by decide) (fun c41 => ?_) (fun c41 => ?_)
        · -- 41 taken
          have c41 := b2_0 c41
          refine lv_iconst (v := 0) hx hb dX4_bill_48 (by decide) ?_
          refine lv_istore (lv' := [(6, .int (0)), (0, .ref (a 0)), (1, .int (cu)), (2, .int (am)), (3, .int (rf)), (4, .int (rt)), (5, .int (dy))]) hx hb dX4_bill_49 hl (by decide) rfl (fun ls hl => ?_)
          refine lv_aload_n hx hb dX4_bill_51 rfl (lv_at hl 1 rfl) ?_
          refine lv_iload_n hx hb dX4_bill_52 rfl (lv_at hl 2 rfl) ?_
          refine zcSi (wf := (fun (u : Unit) => (wM a cI cZ M))) (List.range 21) ⟨hx, hb, hml, hown, hts⟩ (zwNo 21 (by decide) rfl hP hD hS hA) hK (c_X4_isCustomer l D cI cZ a H.size (cu) ) (cwS 1 hts gX4_bill_X4_isCustomer rfl rfl rfl (by decide +kernel) ⟨Nat.le_of_ble_eq_true rfl, Nat.le_of_ble_eq_true rfl⟩) (by decide) (fun _ => rfl) rfl hl.1 rfl (Nat.le_of_ble_eq_true rfl) dX4_bill_53 ⟨Nat.le_of_ble_eq_true rfl, Nat.le_of_ble_eq_true rfl⟩ (fun r53 u H locs hw hP hD hS => ?_)
          subst hw
          refine lv_if_ne (tgt := 63) hx hb dX4_bill_56 (by decide) (fun c56 => ?_) (fun c56 => ?_)
          · -- 56 taken
            have c56 := b2_1 c56
            refine lv_iload hx hb dX4_bill_63 (lv_at hl 0 rfl) ?_
            refine lv_if_ne (tgt := 72) hx hb dX4_bill_65 (by decide) (fun c65 => ?_) (fun c65 => ?_)
            · -- 65 taken
              exact absurd c65 (by decide)
            · -- 65 on
              refine lv_iconst (v := 2) hx hb dX4_bill_68 (by decide) ?_
              refine lv_goto (tgt := 86) hx hb dX4_bill_69 (by decide) ?_
              refine zcVi (ci := 4) (q0 := 0) (wf := (fun (u : Nat → Nat → Int32) => (wM a cI cZ u))) (List.range 21) ⟨hx, hb, hml, hown, hts⟩ (zwAll 21 (by decide) rfl hP hD hS hA) hK (c_X4_refused_k l D cI cZ a H.size (M) (2) (by first | rfl | decide)) (cwV 1 hts gX4_bill_X4_refused rfl rfl rfl (by decide +kernel) ⟨Nat.le_of_ble_eq_true rfl, Nat.le_of_ble_eq_true rfl⟩) rfl rfl (by decide) (fun _ => rfl) rfl hl.1 rfl (Nat.le_of_ble_eq_true rfl) dX4_bill_86 ⟨Nat.le_of_ble_eq_true rfl, Nat.le_of_ble_eq_true rfl⟩ (fun r86 u H locs hw hP hD hS => ?_)
              obtain ⟨rfl, rfl⟩ := hw
              have hP : va_P D vwCl (wM a cI cZ (pt (M) 0 0 (2))) H := hP
              have hD : va_D A (wM a cI cZ (pt (M) 0 0 (2))) := hD
              refine lv_if_eq (tgt := 94) hx hb dX4_bill_89 (by decide) (fun c89 => ?_) (fun c89 => ?_)
              · -- 89 taken
                exact absurd c89 (by decide)
              · -- 89 on
                refine lv_iconst (v := 0) hx hb dX4_bill_92 (by decide) ?_
                exact W.iret (v := 0) hx hb hr (fun t ht hW => ⟨⟨0, (pt (M) 0 0 (2)), rfl, ⟨rfl, by rw [bK2 c56 (fun z => c41 z.2.2.2)]; rfl⟩, by rw [ht]; exact hP, va_K.moved hW.alike hK, hD⟩, hS.F ht⟩) hS.2.2 dX4_bill_93
          · -- 56 on
            have c56 := b2_0 c56
            refine lv_iconst (v := 1) hx hb dX4_bill_59 (by decide) ?_
            refine lv_goto (tgt := 86) hx hb dX4_bill_60 (by decide) ?_
            refine zcVi (ci := 4) (q0 := 0) (wf := (fun (u : Nat → Nat → Int32) => (wM a cI cZ u))) (List.range 21) ⟨hx, hb, hml, hown, hts⟩ (zwAll 21 (by decide) rfl hP hD hS hA) hK (c_X4_refused_k l D cI cZ a H.size (M) (1) (by first | rfl | decide)) (cwV 1 hts gX4_bill_X4_refused rfl rfl rfl (by decide +kernel) ⟨Nat.le_of_ble_eq_true rfl, Nat.le_of_ble_eq_true rfl⟩) rfl rfl (by decide) (fun _ => rfl) rfl hl.1 rfl (Nat.le_of_ble_eq_true rfl) dX4_bill_86 ⟨Nat.le_of_ble_eq_true rfl, Nat.le_of_ble_eq_true rfl⟩ (fun r86 u H locs hw hP hD hS => ?_)
            obtain ⟨rfl, rfl⟩ := hw
            have hP : va_P D vwCl (wM a cI cZ (pt (M) 0 0 (1))) H := hP
            have hD : va_D A (wM a cI cZ (pt (M) 0 0 (1))) := hD
            refine lv_if_eq (tgt := 94) hx hb dX4_bill_89 (by decide) (fun c89 => ?_) (fun c89 => ?_)
            · -- 89 taken
              exact absurd c89 (by decide)
            · -- 89 on
              refine lv_iconst (v := 0) hx hb dX4_bill_92 (by decide) ?_
              exact W.iret (v := 0) hx hb hr (fun t ht hW => ⟨⟨0, (pt (M) 0 0 (1)), rfl, ⟨rfl, by rw [bK1 c56]; rfl⟩, by rw [ht]; exact hP, va_K.moved hW.alike hK, hD⟩, hS.F ht⟩) hS.2.2 dX4_bill_93
        · -- 41 on
          have c41 := b2_1 c41
          refine lv_iconst (v := 1) hx hb dX4_bill_44 (by decide) ?_
          refine lv_goto (tgt := 49) hx hb dX4_bill_45 (by decide) ?_
          refine lv_istore (lv' := [(6, .int (1)), (0, .ref (a 0)), (1, .int (cu)), (2, .int (am)), (3, .int (rf)), (4, .int (rt)), (5, .int (dy))]) hx hb dX4_bill_49 hl (by decide) rfl (fun ls hl => ?_)
          refine lv_aload_n hx hb dX4_bill_51 rfl (lv_at hl 1 rfl) ?_
          refine lv_iload_n hx hb dX4_bill_52 rfl (lv_at hl 2 rfl) ?_
          refine zcSi (wf := (fun (u : Unit) => (wM a cI cZ M))) (List.range 21) ⟨hx, hb, hml, hown, hts⟩ (zwNo 21 (by decide) rfl hP hD hS hA) hK (c_X4_isCustomer l D cI cZ a H.size (cu) ) (cwS 1 hts gX4_bill_X4_isCustomer rfl rfl rfl (by decide +kernel) ⟨Nat.le_of_ble_eq_true rfl, Nat.le_of_ble_eq_true rfl⟩) (by decide) (fun _ => rfl) rfl hl.1 rfl (Nat.le_of_ble_eq_true rfl) dX4_bill_53 ⟨Nat.le_of_ble_eq_true rfl, Nat.le_of_ble_eq_true rfl⟩ (fun r53 u H locs hw hP hD hS => ?_)
          subst hw
          refine lv_if_ne (tgt := 63) hx hb dX4_bill_56 (by decide) (fun c56 => ?_) (fun c56 => ?_)
          · -- 56 taken
            have c56 := b2_1 c56
            refine lv_iload hx hb dX4_bill_63 (lv_at hl 0 rfl) ?_
            refine lv_if_ne (tgt := 72) hx hb dX4_bill_65 (by decide) (fun c65 => ?_) (fun c65 => ?_)
            · -- 65 taken
              refine lv_aload_n hx hb dX4_bill_72 rfl (lv_at hl 1 rfl) ?_
              refine va_get (D := D) (ci := 4) (v := .int (nI (n))) (C := RX4) (T := TX4) (N := 24) hx hb hts (fun w h => List.mem_cons_of_mem _ (List.mem_append_right _ h)) hown hK hP 0 rfl rfl 2 (by decide) (hts (.fieldLink RX4 79 "CashAllocatorModel" "bills" "I") (by decide +kernel)) (fun _ h9 => h9) (congrArg (fun z => some (Value.int z)) hM) dX4_bill_73 ?_
              refine lv_bipush (v := nI (40)) hx hb dX4_bill_76 (by decide) ?_
              refine lv_icmp_ne (tgt := 85) hx hb dX4_bill_78 (by decide) (fun c78 => ?_) (fun c78 => ?_)
              · -- 78 taken
                rw [nI_eq (by omega) (by omega)] at c78
                refine lv_iconst (v := 0) hx hb dX4_bill_85 (by decide) ?_
                refine zcVi (ci := 4) (q0 := 0) (wf := (fun (u : Nat → Nat → Int32) => (wM a cI cZ u))) (List.range 21) ⟨hx, hb, hml, hown, hts⟩ (zwAll 21 (by decide) rfl hP hD hS hA) hK (c_X4_refused_0 l D cI cZ a H.size (M) (0) (by first | rfl | decide)) (cwV 1 hts gX4_bill_X4_refused rfl rfl rfl (by decide +kernel) ⟨Nat.le_of_ble_eq_true rfl, Nat.le_of_ble_eq_true rfl⟩) rfl rfl (by decide) (fun _ => rfl) rfl hl.1 rfl (Nat.le_of_ble_eq_true rfl) dX4_bill_86 ⟨Nat.le_of_ble_eq_true rfl, Nat.le_of_ble_eq_true rfl⟩ (fun r86 u H locs hw hP hD hS => ?_)
                obtain ⟨rfl, rfl⟩ := hw
                have hP : va_P D vwCl (wM a cI cZ (pt (M) 0 0 0)) H := hP
                have hD : va_D A (wM a cI cZ (pt (M) 0 0 0)) := hD
                refine lv_if_eq (tgt := 94) hx hb dX4_bill_89 (by decide) (fun c89 => ?_) (fun c89 => ?_)
                · -- 89 taken
                  exact absurd (bK0 c56 ⟨c7, c18, c30, c41⟩ (by omega)) hk
                · -- 89 on
                  exact absurd c89 (by decide)
              · -- 78 on
                rw [nI_eq (by omega) (by omega)] at c78
                refine lv_iconst (v := 3) hx hb dX4_bill_81 (by decide) ?_
                refine lv_goto (tgt := 86) hx hb dX4_bill_82 (by decide) ?_
                refine zcVi (ci := 4) (q0 := 0) (wf := (fun (u : Nat → Nat → Int32) => (wM a cI cZ u))) (List.range 21) ⟨hx, hb, hml, hown, hts⟩ (zwAll 21 (by decide) rfl hP hD hS hA) hK (c_X4_refused_k l D cI cZ a H.size (M) (3) (by first | rfl | decide)) (cwV 1 hts gX4_bill_X4_refused rfl rfl rfl (by decide +kernel) ⟨Nat.le_of_ble_eq_true rfl, Nat.le_of_ble_eq_true rfl⟩) rfl rfl (by decide) (fun _ => rfl) rfl hl.1 rfl (Nat.le_of_ble_eq_true rfl) dX4_bill_86 ⟨Nat.le_of_ble_eq_true rfl, Nat.le_of_ble_eq_true rfl⟩ (fun r86 u H locs hw hP hD hS => ?_)
                obtain ⟨rfl, rfl⟩ := hw
                have hP : va_P D vwCl (wM a cI cZ (pt (M) 0 0 (3))) H := hP
                have hD : va_D A (wM a cI cZ (pt (M) 0 0 (3))) := hD
                refine lv_if_eq (tgt := 94) hx hb dX4_bill_89 (by decide) (fun c89 => ?_) (fun c89 => ?_)
                · -- 89 taken
                  exact absurd c89 (by decide)
                · -- 89 on
                  refine lv_iconst (v := 0) hx hb dX4_bill_92 (by decide) ?_
                  exact W.iret (v := 0) hx hb hr (fun t ht hW => ⟨⟨0, (pt (M) 0 0 (3)), rfl, ⟨rfl, by rw [bK3 c56 ⟨c7, c18, c30, c41⟩ c78]; rfl⟩, by rw [ht]; exact hP, va_K.moved hW.alike hK, hD⟩, hS.F ht⟩) hS.2.2 dX4_bill_93
            · -- 65 on
              exact absurd c65 (by decide)
          · -- 56 on
            have c56 := b2_0 c56
            refine lv_iconst (v := 1) hx hb dX4_bill_59 (by decide) ?_
            refine lv_goto (tgt := 86) hx hb dX4_bill_60 (by decide) ?_
            refine zcVi (ci := 4) (q0 := 0) (wf := (fun (u : Nat → Nat → Int32) => (wM a cI cZ u))) (List.range 21) ⟨hx, hb, hml, hown, hts⟩ (zwAll 21 (by decide) rfl hP hD hS hA) hK (c_X4_refused_k l D cI cZ a H.size (M) (1) (by first | rfl | decide)) (cwV 1 hts gX4_bill_X4_refused rfl rfl rfl (by decide +kernel) ⟨Nat.le_of_ble_eq_true rfl, Nat.le_of_ble_eq_true rfl⟩) rfl rfl (by decide) (fun _ => rfl) rfl hl.1 rfl (Nat.le_of_ble_eq_true rfl) dX4_bill_86 ⟨Nat.le_of_ble_eq_true rfl, Nat.le_of_ble_eq_true rfl⟩ (fun r86 u H locs hw hP hD hS => ?_)
            obtain ⟨rfl, rfl⟩ := hw
            have hP : va_P D vwCl (wM a cI cZ (pt (M) 0 0 (1))) H := hP
            have hD : va_D A (wM a cI cZ (pt (M) 0 0 (1))) := hD
            refine lv_if_eq (tgt := 94) hx hb dX4_bill_89 (by decide) (fun c89 => ?_) (fun c89 => ?_)
            · -- 89 taken
              exact absurd c89 (by decide)
            · -- 89 on
              refine lv_iconst (v := 0) hx hb dX4_bill_92 (by decide) ?_
              exact W.iret (v := 0) hx hb hr (fun t ht hW => ⟨⟨0, (pt (M) 0 0 (1)), rfl, ⟨rfl, by rw [bK1 c56]; rfl⟩, by rw [ht]; exact hP, va_K.moved hW.alike hK, hD⟩, hS.F ht⟩) hS.2.2 dX4_bill_93
set_option maxHeartbeats 4000000 in
set_option maxRecDepth 100000 in
theorem c_X4_receive_0 (l : Launch) (D : va_G) (cI cZ : ClassId) (a : Nat → Nat) (sz : Nat) (M : Nat → Nat → Int32) (n : Nat) (q : Nat) (cu : Int32) (am : Int32) (rf : Int32) (hM : M 2 0 = nI n) (hn : n ≤ 40) (hMq : M 15 0 = nI q) (hq : q < 30) (hcu : cu = -1 ∨ (¬ cu < 0 ∧ cu < 8)) (h3 : ¬ am < 1) (h4 : am ≤ 1000000) (h5 : ¬ rf < 0) (h6 : rf ≤ 9999) (hso : ∀ i j, i ≤ j → j < n → M 6 i ≤ M 6 j) (hs0 : ∀ i, i < n → 0 ≤ M 6 i) : Met l yX4_receive wsX4_receive ({ frames := 6, cells := 0, slots := 0, locals := 147 } : Room) (va_Pc [.ref (a 0), .int (cu), .int (am), .int (rf)] (PreW D cI cZ (wM a cI cZ M) sz)) (va_Qi (fun (r : Int32) (u : Nat → Nat → Int32) => r = nI q ∧ u = mrcv M q cu am rf n) (fun (u : Nat → Nat → Int32) => PostW D cI cZ (va_A (wM a cI cZ M) sz) (wM a cI cZ u)) (va_A (wM a cI cZ M) sz)) 0 0 (va_A (wM a cI cZ M) sz) := by
  refine Met.ofW (cc := cX4_receive) (maxL := 6) (ret := (some .int)) (by decide) rfl ?_
  intro p e s m args below meth c s₁ BB hml hv
  obtain ⟨rfl, hsz, hP, hK, hD0⟩ := hv
  have hx := BB.exec
  have hb := BB.bytes
  have hr := BB.returns
  have hts := atoms_spec (ws := wsX4_receive) BB.pre
  have hown : s.vm.findClass RX4 = some m.cls := findClass_of_methodNamed BB.named
  have hlocks := BB.notSynchronized
  clear BB
  subst hsz
  have hD := hD0.self (sz := s.heap.size)
  clear hD0
  generalize hAe : va_A (wM a cI cZ M) s.heap.size = A at hD ⊢
  have hA : ∀ q : Nat, s.heap.size ≤ q → A q := fun q h => by rw [← hAe]; exact Or.inr h
  clear hAe
  have hS : va_S A s.heap s.heap [] := va_S.rf
  have hl := lv_entry ([.ref (a 0), .int (cu), .int (am), .int (rf)]) (n := 6) (Nat.le_of_ble_eq_true rfl)
  rw [lg_entry_eq]
  generalize (lg_sl ([.ref (a 0), .int (cu), .int (am), .int (rf)]) ++ List.replicate (6 - (lg_sl ([.ref (a 0), .int (cu), .int (am), .int (rf)])).length) Slot.unset).toArray = ls at hl ⊢
  have hl : lv_has ls 6 [(0, .ref (a 0)), (1, .int (cu)), (2, .int (am)), (3, .int (rf))] := hl
  generalize hHe : s.heap = H at hP
  have hS : va_S A s.heap H [] := by rw [← hHe]; exact va_S.rf
  clear hHe
  generalize hLe : ([] : List Loc) = locs at hS ⊢
  clear hLe
  refine lv_iload_n hx hb dX4_receive_0 rfl (lv_at hl 2 rfl) ?_
  refine lv_iconst (v := 1) hx hb dX4_receive_1 (by decide) ?_
  refine lv_ldc (v := 1000000) hx hb hown (hts (.constant RX4 120 (1000000)) (by decide +kernel)) dX4_receive_2 ?_
  refine zcSi (wf := (fun (u : Unit) => (wM a cI cZ M))) (List.range 21) ⟨hx, hb, hml, hown, hts⟩ (zwNo 21 (by decide) rfl hP hD hS hA) hK (c_X4_in l D cI cZ a H.size (am) (1) (1000000) ) (cwS 3 hts gX4_receive_X4_in rfl rfl rfl (by decide +kernel) ⟨Nat.le_of_ble_eq_true rfl, Nat.le_of_ble_eq_true rfl⟩) (by decide) (fun _ => rfl) rfl hl.1 rfl (Nat.le_of_ble_eq_true rfl) dX4_receive_4 ⟨Nat.le_of_ble_eq_true rfl, Nat.le_of_ble_eq_true rfl⟩ (fun r4 u H locs hw hP hD hS => ?_)
  subst hw
  refine lv_if_eq (tgt := 25) hx hb dX4_receive_7 (by decide) (fun c7 => ?_) (fun c7 => ?_)
  · -- 7 taken
    have c7 := b2_0 c7
    exact absurd ⟨h3, h4⟩ c7
  · -- 7 on
    have c7 := b2_1 c7
    refine lv_iload_n hx hb dX4_receive_10 rfl (lv_at hl 3 rfl) ?_
    refine lv_iconst (v := 0) hx hb dX4_receive_11 (by decide) ?_
    refine lv_sipush (v := 9999) hx hb dX4_receive_12 (by decide) ?_
    refine zcSi (wf := (fun (u : Unit) => (wM a cI cZ M))) (List.range 21) ⟨hx, hb, hml, hown, hts⟩ (zwNo 21 (by decide) rfl hP hD hS hA) hK (c_X4_in l D cI cZ a H.size (rf) (0) (9999) ) (cwS 3 hts gX4_receive_X4_in rfl rfl rfl (by decide +kernel) ⟨Nat.le_of_ble_eq_true rfl, Nat.le_of_ble_eq_true rfl⟩) (by decide) (fun _ => rfl) rfl hl.1 rfl (Nat.le_of_ble_eq_true rfl) dX4_receive_15 ⟨Nat.le_of_ble_eq_true rfl, Nat.le_of_ble_eq_true rfl⟩ (fun r15 u H locs hw hP hD hS => ?_)
    subst hw
    refine lv_if_eq (tgt := 25) hx hb dX4_receive_18 (by decide) (fun c18 => ?_) (fun c18 => ?_)
    · -- 18 taken
      have c18 := b2_0 c18
      exact absurd ⟨h5, h6⟩ c18
    · -- 18 on
      have c18 := b2_1 c18
      refine lv_iconst (v := 1) hx hb dX4_receive_21 (by decide) ?_
      refine lv_goto (tgt := 26) hx hb dX4_receive_22 (by decide) ?_
      refine lv_istore (lv' := [(4, .int (1)), (0, .ref (a 0)), (1, .int (cu)), (2, .int (am)), (3, .int (rf))]) hx hb dX4_receive_26 hl (by decide) rfl (fun ls hl => ?_)
      refine lv_aload_n hx hb dX4_receive_28 rfl (lv_at hl 1 rfl) ?_
      refine lv_iload_n hx hb dX4_receive_29 rfl (lv_at hl 2 rfl) ?_
      refine lv_iconst (v := (-1)) hx hb dX4_receive_30 (by decide) ?_
      refine lv_icmp_eq (tgt := 45) hx hb dX4_receive_31 (by decide) (fun c31 => ?_) (fun c31 => ?_)
      · -- 31 taken
        refine lv_iload hx hb dX4_receive_45 (lv_at hl 0 rfl) ?_
        refine lv_if_ne (tgt := 54) hx hb dX4_receive_47 (by decide) (fun c47 => ?_) (fun c47 => ?_)
        · -- 47 taken
          refine lv_aload_n hx hb dX4_receive_54 rfl (lv_at hl 1 rfl) ?_
          refine va_get (D := D) (ci := 4) (v := .int (nI (q))) (C := RX4) (T := TX4) (N := 24) hx hb hts (fun w h => List.mem_cons_of_mem _ (List.mem_append_right _ h)) hown hK hP 0 rfl rfl 15 (by decide) (hts (.fieldLink RX4 82 "CashAllocatorModel" "receipts" "I") (by decide +kernel)) (fun _ h9 => h9) (congrArg (fun z => some (Value.int z)) hMq) dX4_receive_55 ?_
          refine lv_bipush (v := nI (30)) hx hb dX4_receive_58 (by decide) ?_
          refine lv_icmp_ne (tgt := 67) hx hb dX4_receive_60 (by decide) (fun c60 => ?_) (fun c60 => ?_)
          · -- 60 taken
            rw [nI_eq (by omega) (by omega)] at c60
            refine lv_iconst (v := 0) hx hb dX4_receive_67 (by decide) ?_
            refine zcVi (ci := 4) (q0 := 0) (wf := (fun (u : Nat → Nat → Int32) => (wM a cI cZ u))) (List.range 21) ⟨hx, hb, hml, hown, hts⟩ (zwAll 21 (by decide) rfl hP hD hS hA) hK (c_X4_refused_0 l D cI cZ a H.size (M) (0) (by first | rfl | decide)) (cwV 1 hts gX4_receive_X4_refused rfl rfl rfl (by decide +kernel) ⟨Nat.le_of_ble_eq_true rfl, Nat.le_of_ble_eq_true rfl⟩) rfl rfl (by decide) (fun _ => rfl) rfl hl.1 rfl (Nat.le_of_ble_eq_true rfl) dX4_receive_68 ⟨Nat.le_of_ble_eq_true rfl, Nat.le_of_ble_eq_true rfl⟩ (fun r68 u H locs hw hP hD hS => ?_)
            obtain ⟨rfl, rfl⟩ := hw
            have hP : va_P D vwCl (wM a cI cZ (pt (M) 0 0 0)) H := hP
            have hD : va_D A (wM a cI cZ (pt (M) 0 0 0)) := hD
            refine lv_if_eq (tgt := 76) hx hb dX4_receive_71 (by decide) (fun c71 => ?_) (fun c71 => ?_)
            · -- 71 taken
              refine lv_aload_n hx hb dX4_receive_76 rfl (lv_at hl 1 rfl) ?_
              refine va_get (D := D) (ci := 4) (v := .int (nI (q))) (C := RX4) (T := TX4) (N := 24) hx hb hts (fun w h => List.mem_cons_of_mem _ (List.mem_append_right _ h)) hown hK hP 0 rfl rfl 15 (by decide) (hts (.fieldLink RX4 82 "CashAllocatorModel" "receipts" "I") (by decide +kernel)) (fun _ h9 => h9) (congrArg (fun z => some (Value.int z)) hMq) dX4_receive_77 ?_
              refine lv_istore (lv' := [(5, .int (nI (q))), (4, .int (1)), (0, .ref (a 0)), (1, .int (cu)), (2, .int (am)), (3, .int (rf))]) hx hb dX4_receive_80 hl (by decide) rfl (fun ls hl => ?_)
              refine lv_aload_n hx hb dX4_receive_82 rfl (lv_at hl 2 rfl) ?_
              refine lv_dup hx hb dX4_receive_83 rfl ?_
              refine va_get (D := D) (ci := 4) (v := .int (nI (q))) (C := RX4) (T := TX4) (N := 24) hx hb hts (fun w h => List.mem_cons_of_mem _ (List.mem_append_right _ h)) hown hK hP 0 rfl rfl 15 (by decide) (hts (.fieldLink RX4 82 "CashAllocatorModel" "receipts" "I") (by decide +kernel)) (fun _ h9 => h9) (congrArg (fun z => some (Value.int z)) hMq) dX4_receive_84 ?_
              refine lv_iconst (v := 1) hx hb dX4_receive_87 (by decide) ?_
              refine lv_iadd hx hb dX4_receive_88 ?_
              rw [nI_1]
              refine va_put (D := D) (ci := 4) (v := .int (nI (q + 1))) (ty := .int) (C := RX4) (T := TX4) (N := 24) hx hb hts (fun w h => List.mem_cons_of_mem _ (List.mem_append_right _ h)) tyX4 tyX4_ok nmX4 hown hK hP hD hS 0 rfl rfl 15 (by decide) (hts (.fieldLink RX4 82 "CashAllocatorModel" "receipts" "I") (by decide +kernel)) (fun _ h9 => h9) rfl (by decide +kernel) rfl rfl (Nat.le_of_ble_eq_true rfl) dX4_receive_89 (fun H locs hP hD hS => ?_)
              have hP : va_P D vwCl (wM a cI cZ (pt (pt (M) 0 0 0) 15 (0) (nI (q + 1)))) H := hP
              have hD : va_D A (wM a cI cZ (pt (pt (M) 0 0 0) 15 (0) (nI (q + 1)))) := hD
              refine lv_aload_n hx hb dX4_receive_92 rfl (lv_at hl 2 rfl) ?_
              refine va_get (D := D) (ci := 4) (v := .ref (a 13)) (C := RX4) (T := TX4) (N := 24) hx hb hts (fun w h => List.mem_cons_of_mem _ (List.mem_append_right _ h)) hown hK hP 0 rfl rfl 16 (by decide) (hts (.fieldLink RX4 46 "CashAllocatorModel" "sums" "[I") (by decide +kernel)) (fun _ h9 => h9) rfl dX4_receive_93 ?_
              refine lv_iload hx hb dX4_receive_96 (lv_at hl 0 rfl) ?_
              refine lv_iload_n hx hb dX4_receive_98 rfl (lv_at hl 4 rfl) ?_
              refine zast hx hb hK hP hD hS 13 (n := 30) (f := ((pt (M) 0 0 0) 16)) rfl (q) rfl (by omega) (by decide) (wM a cI cZ (pt (pt (pt (M) 0 0 0) 15 (0) (nI (q + 1))) 16 (q) (am))) rfl dX4_receive_99 (fun H locs hP hD hS => ?_)
              refine lv_aload_n hx hb dX4_receive_100 rfl (lv_at hl 2 rfl) ?_
              refine va_get (D := D) (ci := 4) (v := .ref (a 14)) (C := RX4) (T := TX4) (N := 24) hx hb hts (fun w h => List.mem_cons_of_mem _ (List.mem_append_right _ h)) hown hK hP 0 rfl rfl 17 (by decide) (hts (.fieldLink RX4 49 "CashAllocatorModel" "payers" "[I") (by decide +kernel)) (fun _ h9 => h9) rfl dX4_receive_101 ?_
              refine lv_iload hx hb dX4_receive_104 (lv_at hl 0 rfl) ?_
              refine lv_iload_n hx hb dX4_receive_106 rfl (lv_at hl 3 rfl) ?_
              refine zast hx hb hK hP hD hS 14 (n := 30) (f := ((pt (M) 0 0 0) 17)) rfl (q) rfl (by omega) (by decide) (wM a cI cZ (pt (pt (pt (pt (M) 0 0 0) 15 (0) (nI (q + 1))) 16 (q) (am)) 17 (q) (cu))) rfl dX4_receive_107 (fun H locs hP hD hS => ?_)
              refine lv_aload_n hx hb dX4_receive_108 rfl (lv_at hl 2 rfl) ?_
              refine va_get (D := D) (ci := 4) (v := .ref (a 15)) (C := RX4) (T := TX4) (N := 24) hx hb hts (fun w h => List.mem_cons_of_mem _ (List.mem_append_right _ h)) hown hK hP 0 rfl rfl 18 (by decide) (hts (.fieldLink RX4 52 "CashAllocatorModel" "left" "[I") (by decide +kernel)) (fun _ h9 => h9) rfl dX4_receive_109 ?_
              refine lv_iload hx hb dX4_receive_112 (lv_at hl 0 rfl) ?_
              refine lv_iload_n hx hb dX4_receive_114 rfl (lv_at hl 4 rfl) ?_
              refine zast hx hb hK hP hD hS 15 (n := 30) (f := ((pt (M) 0 0 0) 18)) rfl (q) rfl (by omega) (by decide) (wM a cI cZ (pt (pt (pt (pt (pt (M) 0 0 0) 15 (0) (nI (q + 1))) 16 (q) (am)) 17 (q) (cu)) 18 (q) (am))) rfl dX4_receive_115 (fun H locs hP hD hS => ?_)
              refine lv_iload_n hx hb dX4_receive_116 rfl (lv_at hl 5 rfl) ?_
              refine lv_if_le (tgt := 127) hx hb dX4_receive_117 (by decide) (fun c117 => ?_) (fun c117 => ?_)
              · -- 117 taken
                refine lv_aload_n hx hb dX4_receive_127 rfl (lv_at hl 2 rfl) ?_
                refine lv_iload hx hb dX4_receive_128 (lv_at hl 0 rfl) ?_
                refine zcVv (ci := 4) (q0 := 0) (wf := (fun (u : Nat → Nat → Int32) => (wM a cI cZ u))) (List.range 21) ⟨hx, hb, hml, hown, hts⟩ (zwAll 21 (by decide) rfl hP hD hS hA) hK (c_X4_payOthers l D cI cZ a H.size ((pt (pt (pt (pt (pt (M) 0 0 0) 15 (0) (nI (q + 1))) 16 (q) (am)) 17 (q) (cu)) 18 (q) (am))) (q) (n) (by first | assumption | omega) (by first | exact hM | (rw [mnam_o (by decide)]; exact hM)) (by first | assumption | omega) (fun i j g1 g2 => by first | exact hso i j g1 g2 | (rw [mnam_o (by decide), mnam_o (by decide)]; exact hso i j g1 g2)) (fun i g => by first | exact hs0 i g | (rw [mnam_o (by decide)]; exact hs0 i g))) (cwV 1 hts gX4_receive_X4_payOthers rfl rfl rfl (by decide +kernel) ⟨Nat.le_of_ble_eq_true rfl, Nat.le_of_ble_eq_true rfl⟩) rfl rfl (by decide) (fun _ => rfl) rfl hl.1 rfl (Nat.le_of_ble_eq_true rfl) dX4_receive_130 ⟨Nat.le_of_ble_eq_true rfl, Nat.le_of_ble_eq_true rfl⟩ (fun u H locs hw hP hD hS => ?_)
                subst hw
                have hP : va_P D vwCl (wM a cI cZ (moth ((pt (pt (pt (pt (pt (M) 0 0 0) 15 (0) (nI (q + 1))) 16 (q) (am)) 17 (q) (cu)) 18 (q) (am))) (q) n)) H := hP
                have hD : va_D A (wM a cI cZ (moth ((pt (pt (pt (pt (pt (M) 0 0 0) 15 (0) (nI (q + 1))) 16 (q) (am)) 17 (q) (cu)) 18 (q) (am))) (q) n)) := hD
                refine lv_iload hx hb dX4_receive_133 (lv_at hl 0 rfl) ?_
                exact W.iret (v := nI (q)) hx hb hr (fun t ht hW => ⟨⟨nI (q), (moth ((pt (pt (pt (pt (pt (M) 0 0 0) 15 (0) (nI (q + 1))) 16 (q) (am)) 17 (q) (cu)) 18 (q) (am))) (q) n), rfl, ⟨rfl, by unfold mrcv; rw [if_pos c117]; rfl⟩, by rw [ht]; exact hP, va_K.moved hW.alike hK, hD⟩, hS.F ht⟩) hS.2.2 dX4_receive_135
              · -- 117 on
                refine lv_aload_n hx hb dX4_receive_120 rfl (lv_at hl 2 rfl) ?_
                refine lv_iload hx hb dX4_receive_121 (lv_at hl 0 rfl) ?_
                refine lv_iload_n hx hb dX4_receive_123 rfl (lv_at hl 5 rfl) ?_
                refine zcVv (ci := 4) (q0 := 0) (wf := (fun (u : Nat → Nat → Int32) => (wM a cI cZ u))) (List.range 21) ⟨hx, hb, hml, hown, hts⟩ (zwAll 21 (by decide) rfl hP hD hS hA) hK (c_X4_payNamed l D cI cZ a H.size ((pt (pt (pt (pt (pt (M) 0 0 0) 15 (0) (nI (q + 1))) 16 (q) (am)) 17 (q) (cu)) 18 (q) (am))) (q) (rf) (n) (by first | assumption | omega) hM (by first | assumption | omega)) (cwV 2 hts gX4_receive_X4_payNamed rfl rfl rfl (by decide +kernel) ⟨Nat.le_of_ble_eq_true rfl, Nat.le_of_ble_eq_true rfl⟩) rfl rfl (by decide) (fun _ => rfl) rfl hl.1 rfl (Nat.le_of_ble_eq_true rfl) dX4_receive_124 ⟨Nat.le_of_ble_eq_true rfl, Nat.le_of_ble_eq_true rfl⟩ (fun u H locs hw hP hD hS => ?_)
                subst hw
                have hP : va_P D vwCl (wM a cI cZ (mnam ((pt (pt (pt (pt (pt (M) 0 0 0) 15 (0) (nI (q + 1))) 16 (q) (am)) 17 (q) (cu)) 18 (q) (am))) (q) (rf) n)) H := hP
                have hD : va_D A (wM a cI cZ (mnam ((pt (pt (pt (pt (pt (M) 0 0 0) 15 (0) (nI (q + 1))) 16 (q) (am)) 17 (q) (cu)) 18 (q) (am))) (q) (rf) n)) := hD
                refine lv_aload_n hx hb dX4_receive_127 rfl (lv_at hl 2 rfl) ?_
                refine lv_iload hx hb dX4_receive_128 (lv_at hl 0 rfl) ?_
                refine zcVv (ci := 4) (q0 := 0) (wf := (fun (u : Nat → Nat → Int32) => (wM a cI cZ u))) (List.range 21) ⟨hx, hb, hml, hown, hts⟩ (zwAll 21 (by decide) rfl hP hD hS hA) hK (c_X4_payOthers l D cI cZ a H.size ((mnam ((pt (pt (pt (pt (pt (M) 0 0 0) 15 (0) (nI (q + 1))) 16 (q) (am)) 17 (q) (cu)) 18 (q) (am))) (q) (rf) n)) (q) (n) (by first | assumption | omega) (by first | exact hM | (rw [mnam_o (by decide)]; exact hM)) (by first | assumption | omega) (fun i j g1 g2 => by first | exact hso i j g1 g2 | (rw [mnam_o (by decide), mnam_o (by decide)]; exact hso i j g1 g2)) (fun i g => by first | exact hs0 i g | (rw [mnam_o (by decide)]; exact hs0 i g))) (cwV 1 hts gX4_receive_X4_payOthers rfl rfl rfl (by decide +kernel) ⟨Nat.le_of_ble_eq_true rfl, Nat.le_of_ble_eq_true rfl⟩) rfl rfl (by decide) (fun _ => rfl) rfl hl.1 rfl (Nat.le_of_ble_eq_true rfl) dX4_receive_130 ⟨Nat.le_of_ble_eq_true rfl, Nat.le_of_ble_eq_true rfl⟩ (fun u H locs hw hP hD hS => ?_)
                subst hw
                have hP : va_P D vwCl (wM a cI cZ (moth ((mnam ((pt (pt (pt (pt (pt (M) 0 0 0) 15 (0) (nI (q + 1))) 16 (q) (am)) 17 (q) (cu)) 18 (q) (am))) (q) (rf) n)) (q) n)) H := hP
                have hD : va_D A (wM a cI cZ (moth ((mnam ((pt (pt (pt (pt (pt (M) 0 0 0) 15 (0) (nI (q + 1))) 16 (q) (am)) 17 (q) (cu)) 18 (q) (am))) (q) (rf) n)) (q) n)) := hD
                refine lv_iload hx hb dX4_receive_133 (lv_at hl 0 rfl) ?_
                exact W.iret (v := nI (q)) hx hb hr (fun t ht hW => ⟨⟨nI (q), (moth ((mnam ((pt (pt (pt (pt (pt (M) 0 0 0) 15 (0) (nI (q + 1))) 16 (q) (am)) 17 (q) (cu)) 18 (q) (am))) (q) (rf) n)) (q) n), rfl, ⟨rfl, by unfold mrcv; rw [if_neg c117]; rfl⟩, by rw [ht]; exact hP, va_K.moved hW.alike hK, hD⟩, hS.F ht⟩) hS.2.2 dX4_receive_135
            · -- 71 on
              exact absurd c71 (by decide)
          · -- 60 on
            rw [nI_eq (by omega) (by omega)] at c60
            exact absurd c60 (by omega)
        · -- 47 on
          exact absurd c47 (by decide)
      · -- 31 on
        refine lv_iload_n hx hb dX4_receive_34 rfl (lv_at hl 2 rfl) ?_
        refine zcSi (wf := (fun (u : Unit) => (wM a cI cZ M))) (List.range 21) ⟨hx, hb, hml, hown, hts⟩ (zwNo 21 (by decide) rfl hP hD hS hA) hK (c_X4_isCustomer l D cI cZ a H.size (cu) ) (cwS 1 hts gX4_receive_X4_isCustomer rfl rfl rfl (by decide +kernel) ⟨Nat.le_of_ble_eq_true rfl, Nat.le_of_ble_eq_true rfl⟩) (by decide) (fun _ => rfl) rfl hl.1 rfl (Nat.le_of_ble_eq_true rfl) dX4_receive_35 ⟨Nat.le_of_ble_eq_true rfl, Nat.le_of_ble_eq_true rfl⟩ (fun r35 u H locs hw hP hD hS => ?_)
        subst hw
        refine lv_if_ne (tgt := 45) hx hb dX4_receive_38 (by decide) (fun c38 => ?_) (fun c38 => ?_)
        · -- 38 taken
          have c38 := b2_1 c38
          refine lv_iload hx hb dX4_receive_45 (lv_at hl 0 rfl) ?_
          refine lv_if_ne (tgt := 54) hx hb dX4_receive_47 (by decide) (fun c47 => ?_) (fun c47 => ?_)
          · -- 47 taken
            refine lv_aload_n hx hb dX4_receive_54 rfl (lv_at hl 1 rfl) ?_
            refine va_get (D := D) (ci := 4) (v := .int (nI (q))) (C := RX4) (T := TX4) (N := 24) hx hb hts (fun w h => List.mem_cons_of_mem _ (List.mem_append_right _ h)) hown hK hP 0 rfl rfl 15 (by decide) (hts (.fieldLink RX4 82 "CashAllocatorModel" "receipts" "I") (by decide +kernel)) (fun _ h9 => h9) (congrArg (fun z => some (Value.int z)) hMq) dX4_receive_55 ?_
            refine lv_bipush (v := nI (30)) hx hb dX4_receive_58 (by decide) ?_
            refine lv_icmp_ne (tgt := 67) hx hb dX4_receive_60 (by decide) (fun c60 => ?_) (fun c60 => ?_)
            · -- 60 taken
              rw [nI_eq (by omega) (by omega)] at c60
              refine lv_iconst (v := 0) hx hb dX4_receive_67 (by decide) ?_
              refine zcVi (ci := 4) (q0 := 0) (wf := (fun (u : Nat → Nat → Int32) => (wM a cI cZ u))) (List.range 21) ⟨hx, hb, hml, hown, hts⟩ (zwAll 21 (by decide) rfl hP hD hS hA) hK (c_X4_refused_0 l D cI cZ a H.size (M) (0) (by first | rfl | decide)) (cwV 1 hts gX4_receive_X4_refused rfl rfl rfl (by decide +kernel) ⟨Nat.le_of_ble_eq_true rfl, Nat.le_of_ble_eq_true rfl⟩) rfl rfl (by decide) (fun _ => rfl) rfl hl.1 rfl (Nat.le_of_ble_eq_true rfl) dX4_receive_68 ⟨Nat.le_of_ble_eq_true rfl, Nat.le_of_ble_eq_true rfl⟩ (fun r68 u H locs hw hP hD hS => ?_)
              obtain ⟨rfl, rfl⟩ := hw
              have hP : va_P D vwCl (wM a cI cZ (pt (M) 0 0 0)) H := hP
              have hD : va_D A (wM a cI cZ (pt (M) 0 0 0)) := hD
              refine lv_if_eq (tgt := 76) hx hb dX4_receive_71 (by decide) (fun c71 => ?_) (fun c71 => ?_)
              · -- 71 taken
                refine lv_aload_n hx hb dX4_receive_76 rfl (lv_at hl 1 rfl) ?_
                refine va_get (D := D) (ci := 4) (v := .int (nI (q))) (C := RX4) (T := TX4) (N := 24) hx hb hts (fun w h => List.mem_cons_of_mem _ (List.mem_append_right _ h)) hown hK hP 0 rfl rfl 15 (by decide) (hts (.fieldLink RX4 82 "CashAllocatorModel" "receipts" "I") (by decide +kernel)) (fun _ h9 => h9) (congrArg (fun z => some (Value.int z)) hMq) dX4_receive_77 ?_
                refine lv_istore (lv' := [(5, .int (nI (q))), (4, .int (1)), (0, .ref (a 0)), (1, .int (cu)), (2, .int (am)), (3, .int (rf))]) hx hb dX4_receive_80 hl (by decide) rfl (fun ls hl => ?_)
                refine lv_aload_n hx hb dX4_receive_82 rfl (lv_at hl 2 rfl) ?_
                refine lv_dup hx hb dX4_receive_83 rfl ?_
                refine va_get (D := D) (ci := 4) (v := .int (nI (q))) (C := RX4) (T := TX4) (N := 24) hx hb hts (fun w h => List.mem_cons_of_mem _ (List.mem_append_right _ h)) hown hK hP 0 rfl rfl 15 (by decide) (hts (.fieldLink RX4 82 "CashAllocatorModel" "receipts" "I") (by decide +kernel)) (fun _ h9 => h9) (congrArg (fun z => some (Value.int z)) hMq) dX4_receive_84 ?_
                refine lv_iconst (v := 1) hx hb dX4_receive_87 (by decide) ?_
                refine lv_iadd hx hb dX4_receive_88 ?_
                rw [nI_1]
                refine va_put (D := D) (ci := 4) (v := .int (nI (q + 1))) (ty := .int) (C := RX4) (T := TX4) (N := 24) hx hb hts (fun w h => List.mem_cons_of_mem _ (List.mem_append_right _ h)) tyX4 tyX4_ok nmX4 hown hK hP hD hS 0 rfl rfl 15 (by decide) (hts (.fieldLink RX4 82 "CashAllocatorModel" "receipts" "I") (by decide +kernel)) (fun _ h9 => h9) rfl (by decide +kernel) rfl rfl (Nat.le_of_ble_eq_true rfl) dX4_receive_89 (fun H locs hP hD hS => ?_)
                have hP : va_P D vwCl (wM a cI cZ (pt (pt (M) 0 0 0) 15 (0) (nI (q + 1)))) H := hP
                have hD : va_D A (wM a cI cZ (pt (pt (M) 0 0 0) 15 (0) (nI (q + 1)))) := hD
                refine lv_aload_n hx hb dX4_receive_92 rfl (lv_at hl 2 rfl) ?_
                refine va_get (D := D) (ci := 4) (v := .ref (a 13)) (C := RX4) (T := TX4) (N := 24) hx hb hts (fun w h => List.mem_cons_of_mem _ (List.mem_append_right _ h)) hown hK hP 0 rfl rfl 16 (by decide) (hts (.fieldLink RX4 46 "CashAllocatorModel" "sums" "[I") (by decide +kernel)) (fun _ h9 => h9) rfl dX4_receive_93 ?_
                refine lv_iload hx hb dX4_receive_96 (lv_at hl 0 rfl) ?_
                refine lv_iload_n hx hb dX4_receive_98 rfl (lv_at hl 4 rfl) ?_
                refine zast hx hb hK hP hD hS 13 (n := 30) (f := ((pt (M) 0 0 0) 16)) rfl (q) rfl (by omega) (by decide) (wM a cI cZ (pt (pt (pt (M) 0 0 0) 15 (0) (nI (q + 1))) 16 (q) (am))) rfl dX4_receive_99 (fun H locs hP hD hS => ?_)
                refine lv_aload_n hx hb dX4_receive_100 rfl (lv_at hl 2 rfl) ?_
                refine va_get (D := D) (ci := 4) (v := .ref (a 14)) (C := RX4) (T := TX4) (N := 24) hx hb hts (fun w h => List.mem_cons_of_mem _ (List.mem_append_right _ h)) hown hK hP 0 rfl rfl 17 (by decide) (hts (.fieldLink RX4 49 "CashAllocatorModel" "payers" "[I") (by decide +kernel)) (fun _ h9 => h9) rfl dX4_receive_101 ?_
                refine lv_iload hx hb dX4_receive_104 (lv_at hl 0 rfl) ?_
                refine lv_iload_n hx hb dX4_receive_106 rfl (lv_at hl 3 rfl) ?_
                refine zast hx hb hK hP hD hS 14 (n := 30) (f := ((pt (M) 0 0 0) 17)) rfl (q) rfl (by omega) (by decide) (wM a cI cZ (pt (pt (pt (pt (M) 0 0 0) 15 (0) (nI (q + 1))) 16 (q) (am)) 17 (q) (cu))) rfl dX4_receive_107 (fun H locs hP hD hS => ?_)
                refine lv_aload_n hx hb dX4_receive_108 rfl (lv_at hl 2 rfl) ?_
                refine va_get (D := D) (ci := 4) (v := .ref (a 15)) (C := RX4) (T := TX4) (N := 24) hx hb hts (fun w h => List.mem_cons_of_mem _ (List.mem_append_right _ h)) hown hK hP 0 rfl rfl 18 (by decide) (hts (.fieldLink RX4 52 "CashAllocatorModel" "left" "[I") (by decide +kernel)) (fun _ h9 => h9) rfl dX4_receive_109 ?_
                refine lv_iload hx hb dX4_receive_112 (lv_at hl 0 rfl) ?_
                refine lv_iload_n hx hb dX4_receive_114 rfl (lv_at hl 4 rfl) ?_
                refine zast hx hb hK hP hD hS 15 (n := 30) (f := ((pt (M) 0 0 0) 18)) rfl (q) rfl (by omega) (by decide) (wM a cI cZ (pt (pt (pt (pt (pt (M) 0 0 0) 15 (0) (nI (q + 1))) 16 (q) (am)) 17 (q) (cu)) 18 (q) (am))) rfl dX4_receive_115 (fun H locs hP hD hS => ?_)
                refine lv_iload_n hx hb dX4_receive_116 rfl (lv_at hl 5 rfl) ?_
                refine lv_if_le (tgt := 127) hx hb dX4_receive_117 (by decide) (fun c117 => ?_) (fun c117 => ?_)
                · -- 117 taken
                  refine lv_aload_n hx hb dX4_receive_127 rfl (lv_at hl 2 rfl) ?_
                  refine lv_iload hx hb dX4_receive_128 (lv_at hl 0 rfl) ?_
                  refine zcVv (ci := 4) (q0 := 0) (wf := (fun (u : Nat → Nat → Int32) => (wM a cI cZ u))) (List.range 21) ⟨hx, hb, hml, hown, hts⟩ (zwAll 21 (by decide) rfl hP hD hS hA) hK (c_X4_payOthers l D cI cZ a H.size ((pt (pt (pt (pt (pt (M) 0 0 0) 15 (0) (nI (q + 1))) 16 (q) (am)) 17 (q) (cu)) 18 (q) (am))) (q) (n) (by first | assumption | omega) (by first | exact hM | (rw [mnam_o (by decide)]; exact hM)) (by first | assumption | omega) (fun i j g1 g2 => by first | exact hso i j g1 g2 | (rw [mnam_o (by decide), mnam_o (by decide)]; exact hso i j g1 g2)) (fun i g => by first | exact hs0 i g | (rw [mnam_o (by decide)]; exact hs0 i g))) (cwV 1 hts gX4_receive_X4_payOthers rfl rfl rfl (by decide +kernel) ⟨Nat.le_of_ble_eq_true rfl, Nat.le_of_ble_eq_true rfl⟩) rfl rfl (by decide) (fun _ => rfl) rfl hl.1 rfl (Nat.le_of_ble_eq_true rfl) dX4_receive_130 ⟨Nat.le_of_ble_eq_true rfl, Nat.le_of_ble_eq_true rfl⟩ (fun u H locs hw hP hD hS => ?_)
                  subst hw
                  have hP : va_P D vwCl (wM a cI cZ (moth ((pt (pt (pt (pt (pt (M) 0 0 0) 15 (0) (nI (q + 1))) 16 (q) (am)) 17 (q) (cu)) 18 (q) (am))) (q) n)) H := hP
                  have hD : va_D A (wM a cI cZ (moth ((pt (pt (pt (pt (pt (M) 0 0 0) 15 (0) (nI (q + 1))) 16 (q) (am)) 17 (q) (cu)) 18 (q) (am))) (q) n)) := hD
                  refine lv_iload hx hb dX4_receive_133 (lv_at hl 0 rfl) ?_
                  exact W.iret (v := nI (q)) hx hb hr (fun t ht hW => ⟨⟨nI (q), (moth ((pt (pt (pt (pt (pt (M) 0 0 0) 15 (0) (nI (q + 1))) 16 (q) (am)) 17 (q) (cu)) 18 (q) (am))) (q) n), rfl, ⟨rfl, by unfold mrcv; rw [if_pos c117]; rfl⟩, by rw [ht]; exact hP, va_K.moved hW.alike hK, hD⟩, hS.F ht⟩) hS.2.2 dX4_receive_135
                · -- 117 on
                  refine lv_aload_n hx hb dX4_receive_120 rfl (lv_at hl 2 rfl) ?_
                  refine lv_iload hx hb dX4_receive_121 (lv_at hl 0 rfl) ?_
                  refine lv_iload_n hx hb dX4_receive_123 rfl (lv_at hl 5 rfl) ?_
                  refine zcVv (ci := 4) (q0 := 0) (wf := (fun (u : Nat → Nat → Int32) => (wM a cI cZ u))) (List.range 21) ⟨hx, hb, hml, hown, hts⟩ (zwAll 21 (by decide) rfl hP hD hS hA) hK (c_X4_payNamed l D cI cZ a H.size ((pt (pt (pt (pt (pt (M) 0 0 0) 15 (0) (nI (q + 1))) 16 (q) (am)) 17 (q) (cu)) 18 (q) (am))) (q) (rf) (n) (by first | assumption | omega) hM (by first | assumption | omega)) (cwV 2 hts gX4_receive_X4_payNamed rfl rfl rfl (by decide +kernel) ⟨Nat.le_of_ble_eq_true rfl, Nat.le_of_ble_eq_true rfl⟩) rfl rfl (by decide) (fun _ => rfl) rfl hl.1 rfl (Nat.le_of_ble_eq_true rfl) dX4_receive_124 ⟨Nat.le_of_ble_eq_true rfl, Nat.le_of_ble_eq_true rfl⟩ (fun u H locs hw hP hD hS => ?_)
                  subst hw
                  have hP : va_P D vwCl (wM a cI cZ (mnam ((pt (pt (pt (pt (pt (M) 0 0 0) 15 (0) (nI (q + 1))) 16 (q) (am)) 17 (q) (cu)) 18 (q) (am))) (q) (rf) n)) H := hP
                  have hD : va_D A (wM a cI cZ (mnam ((pt (pt (pt (pt (pt (M) 0 0 0) 15 (0) (nI (q + 1))) 16 (q) (am)) 17 (q) (cu)) 18 (q) (am))) (q) (rf) n)) := hD
                  refine lv_aload_n hx hb dX4_receive_127 rfl (lv_at hl 2 rfl) ?_
                  refine lv_iload hx hb dX4_receive_128 (lv_at hl 0 rfl) ?_
                  refine zcVv (ci := 4) (q0 := 0) (wf := (fun (u : Nat → Nat → Int32) => (wM a cI cZ u))) (List.range 21) ⟨hx, hb, hml, hown, hts⟩ (zwAll 21 (by decide) rfl hP hD hS hA) hK (c_X4_payOthers l D cI cZ a H.size ((mnam ((pt (pt (pt (pt (pt (M) 0 0 0) 15 (0) (nI (q + 1))) 16 (q) (am)) 17 (q) (cu)) 18 (q) (am))) (q) (rf) n)) (q) (n) (by first | assumption | omega) (by first | exact hM | (rw [mnam_o (by decide)]; exact hM)) (by first | assumption | omega) (fun i j g1 g2 => by first | exact hso i j g1 g2 | (rw [mnam_o (by decide), mnam_o (by decide)]; exact hso i j g1 g2)) (fun i g => by first | exact hs0 i g | (rw [mnam_o (by decide)]; exact hs0 i g))) (cwV 1 hts gX4_receive_X4_payOthers rfl rfl rfl (by decide +kernel) ⟨Nat.le_of_ble_eq_true rfl, Nat.le_of_ble_eq_true rfl⟩) rfl rfl (by decide) (fun _ => rfl) rfl hl.1 rfl (Nat.le_of_ble_eq_true rfl) dX4_receive_130 ⟨Nat.le_of_ble_eq_true rfl, Nat.le_of_ble_eq_true rfl⟩ (fun u H locs hw hP hD hS => ?_)
                  subst hw
                  have hP : va_P D vwCl (wM a cI cZ (moth ((mnam ((pt (pt (pt (pt (pt (M) 0 0 0) 15 (0) (nI (q + 1))) 16 (q) (am)) 17 (q) (cu)) 18 (q) (am))) (q) (rf) n)) (q) n)) H := hP
                  have hD : va_D A (wM a cI cZ (moth ((mnam ((pt (pt (pt (pt (pt (M) 0 0 0) 15 (0) (nI (q + 1))) 16 (q) (am)) 17 (q) (cu)) 18 (q) (am))) (q) (rf) n)) (q) n)) := hD
                  refine lv_iload hx hb dX4_receive_133 (lv_at hl 0 rfl) ?_
                  exact W.iret (v := nI (q)) hx hb hr (fun t ht hW => ⟨⟨nI (q), (moth ((mnam ((pt (pt (pt (pt (pt (M) 0 0 0) 15 (0) (nI (q + 1))) 16 (q) (am)) 17 (q) (cu)) 18 (q) (am))) (q) (rf) n)) (q) n), rfl, ⟨rfl, by unfold mrcv; rw [if_neg c117]; rfl⟩, by rw [ht]; exact hP, va_K.moved hW.alike hK, hD⟩, hS.F ht⟩) hS.2.2 dX4_receive_135
              · -- 71 on
                exact absurd c71 (by decide)
            · -- 60 on
              rw [nI_eq (by omega) (by omega)] at c60
              exact absurd c60 (by omega)
          · -- 47 on
            exact absurd c47 (by decide)
        · -- 38 on
          have c38 := b2_0 c38
          exact absurd (hcu.resolve_left c31) c38
set_option maxHeartbeats 4000000 in
set_option maxRecDepth 100000 in
theorem c_X4_receive_k (l : Launch) (D : va_G) (cI cZ : ClassId) (a : Nat → Nat) (sz : Nat) (M : Nat → Nat → Int32) (q : Nat) (cu : Int32) (am : Int32) (rf : Int32) (hMq : M 15 0 = nI q) (hq : q ≤ 30) (hk : ¬ rcvK q cu am rf = 0) : Met l yX4_receive wsX4_receive ({ frames := 6, cells := 0, slots := 0, locals := 147 } : Room) (va_Pc [.ref (a 0), .int (cu), .int (am), .int (rf)] (PreW D cI cZ (wM a cI cZ M) sz)) (va_Qi (fun (r : Int32) (u : Nat → Nat → Int32) => r = 0 ∧ u = pt M 0 0 (nI (rcvK q cu am rf))) (fun (u : Nat → Nat → Int32) => PostW D cI cZ (va_A (wM a cI cZ M) sz) (wM a cI cZ u)) (va_A (wM a cI cZ M) sz)) 0 0 (va_A (wM a cI cZ M) sz) := by
  refine Met.ofW (cc := cX4_receive) (maxL := 6) (ret := (some .int)) (by decide) rfl ?_
  intro p e s m args below meth c s₁ BB hml hv
  obtain ⟨rfl, hsz, hP, hK, hD0⟩ := hv
  have hx := BB.exec
  have hb := BB.bytes
  have hr := BB.returns
  have hts := atoms_spec (ws := wsX4_receive) BB.pre
  have hown : s.vm.findClass RX4 = some m.cls := findClass_of_methodNamed BB.named
  have hlocks := BB.notSynchronized
  clear BB
  subst hsz
  have hD := hD0.self (sz := s.heap.size)
  clear hD0
  generalize hAe : va_A (wM a cI cZ M) s.heap.size = A at hD ⊢
  have hA : ∀ q : Nat, s.heap.size ≤ q → A q := fun q h => by rw [← hAe]; exact Or.inr h
  clear hAe
  have hS : va_S A s.heap s.heap [] := va_S.rf
  have hl := lv_entry ([.ref (a 0), .int (cu), .int (am), .int (rf)]) (n := 6) (Nat.le_of_ble_eq_true rfl)
  rw [lg_entry_eq]
  generalize (lg_sl ([.ref (a 0), .int (cu), .int (am), .int (rf)]) ++ List.replicate (6 - (lg_sl ([.ref (a 0), .int (cu), .int (am), .int (rf)])).length) Slot.unset).toArray = ls at hl ⊢
  have hl : lv_has ls 6 [(0, .ref (a 0)), (1, .int (cu)), (2, .int (am)), (3, .int (rf))] := hl
  generalize hHe : s.heap = H at hP
  have hS : va_S A s.heap H [] := by rw [← hHe]; exact va_S.rf
  clear hHe
  generalize hLe : ([] : List Loc) = locs at hS ⊢
  clear hLe
  refine lv_iload_n hx hb dX4_receive_0 rfl (lv_at hl 2 rfl) ?_
  refine lv_iconst (v := 1) hx hb dX4_receive_1 (by decide) ?_
  refine lv_ldc (v := 1000000) hx hb hown (hts (.constant RX4 120 (1000000)) (by decide +kernel)) dX4_receive_2 ?_
  refine zcSi (wf := (fun (u : Unit) => (wM a cI cZ M))) (List.range 21) ⟨hx, hb, hml, hown, hts⟩ (zwNo 21 (by decide) rfl hP hD hS hA) hK (c_X4_in l D cI cZ a H.size (am) (1) (1000000) ) (cwS 3 hts gX4_receive_X4_in rfl rfl rfl (by decide +kernel) ⟨Nat.le_of_ble_eq_true rfl, Nat.le_of_ble_eq_true rfl⟩) (by decide) (fun _ => rfl) rfl hl.1 rfl (Nat.le_of_ble_eq_true rfl) dX4_receive_4 ⟨Nat.le_of_ble_eq_true rfl, Nat.le_of_ble_eq_true rfl⟩ (fun r4 u H locs hw hP hD hS => ?_)
  subst hw
  refine lv_if_eq (tgt := 25) hx hb dX4_receive_7 (by decide) (fun c7 => ?_) (fun c7 => ?_)
  · -- 7 taken
    have c7 := b2_0 c7
    refine lv_iconst (v := 0) hx hb dX4_receive_25 (by decide) ?_
    refine lv_istore (lv' := [(4, .int (0)), (0, .ref (a 0)), (1, .int (cu)), (2, .int (am)), (3, .int (rf))]) hx hb dX4_receive_26 hl (by decide) rfl (fun ls hl => ?_)
    refine lv_aload_n hx hb dX4_receive_28 rfl (lv_at hl 1 rfl) ?_
    refine lv_iload_n hx hb dX4_receive_29 rfl (lv_at hl 2 rfl) ?_
    refine lv_iconst (v := (-1)) hx hb dX4_receive_30 (by decide) ?_
    refine lv_icmp_eq (tgt := 45) hx hb dX4_receive_31 (by decide) (fun c31 => ?_) (fun c31 => ?_)
    · -- 31 taken
      refine lv_iload hx hb dX4_receive_45 (lv_at hl 0 rfl) ?_
      refine lv_if_ne (tgt := 54) hx hb dX4_receive_47 (by decide) (fun c47 => ?_) (fun c47 => ?_)
      · -- 47 taken
        exact absurd c47 (by decide)
      · -- 47 on
        refine lv_iconst (v := 2) hx hb dX4_receive_50 (by decide) ?_
        refine lv_goto (tgt := 68) hx hb dX4_receive_51 (by decide) ?_
        refine zcVi (ci := 4) (q0 := 0) (wf := (fun (u : Nat → Nat → Int32) => (wM a cI cZ u))) (List.range 21) ⟨hx, hb, hml, hown, hts⟩ (zwAll 21 (by decide) rfl hP hD hS hA) hK (c_X4_refused_k l D cI cZ a H.size (M) (2) (by first | rfl | decide)) (cwV 1 hts gX4_receive_X4_refused rfl rfl rfl (by decide +kernel) ⟨Nat.le_of_ble_eq_true rfl, Nat.le_of_ble_eq_true rfl⟩) rfl rfl (by decide) (fun _ => rfl) rfl hl.1 rfl (Nat.le_of_ble_eq_true rfl) dX4_receive_68 ⟨Nat.le_of_ble_eq_true rfl, Nat.le_of_ble_eq_true rfl⟩ (fun r68 u H locs hw hP hD hS => ?_)
        obtain ⟨rfl, rfl⟩ := hw
        have hP : va_P D vwCl (wM a cI cZ (pt (M) 0 0 (2))) H := hP
        have hD : va_D A (wM a cI cZ (pt (M) 0 0 (2))) := hD
        refine lv_if_eq (tgt := 76) hx hb dX4_receive_71 (by decide) (fun c71 => ?_) (fun c71 => ?_)
        · -- 71 taken
          exact absurd c71 (by decide)
        · -- 71 on
          refine lv_iconst (v := 0) hx hb dX4_receive_74 (by decide) ?_
          exact W.iret (v := 0) hx hb hr (fun t ht hW => ⟨⟨0, (pt (M) 0 0 (2)), rfl, ⟨rfl, by rw [rK2 (Or.inl c31) (fun z => c7 z.1)]; rfl⟩, by rw [ht]; exact hP, va_K.moved hW.alike hK, hD⟩, hS.F ht⟩) hS.2.2 dX4_receive_75
    · -- 31 on
      refine lv_iload_n hx hb dX4_receive_34 rfl (lv_at hl 2 rfl) ?_
      refine zcSi (wf := (fun (u : Unit) => (wM a cI cZ M))) (List.range 21) ⟨hx, hb, hml, hown, hts⟩ (zwNo 21 (by decide) rfl hP hD hS hA) hK (c_X4_isCustomer l D cI cZ a H.size (cu) ) (cwS 1 hts gX4_receive_X4_isCustomer rfl rfl rfl (by decide +kernel) ⟨Nat.le_of_ble_eq_true rfl, Nat.le_of_ble_eq_true rfl⟩) (by decide) (fun _ => rfl) rfl hl.1 rfl (Nat.le_of_ble_eq_true rfl) dX4_receive_35 ⟨Nat.le_of_ble_eq_true rfl, Nat.le_of_ble_eq_true rfl⟩ (fun r35 u H locs hw hP hD hS => ?_)
      subst hw
      refine lv_if_ne (tgt := 45) hx hb dX4_receive_38 (by decide) (fun c38 => ?_) (fun c38 => ?_)
      · -- 38 taken
        have c38 := b2_1 c38
        refine lv_iload hx hb dX4_receive_45 (lv_at hl 0 rfl) ?_
        refine lv_if_ne (tgt := 54) hx hb dX4_receive_47 (by decide) (fun c47 => ?_) (fun c47 => ?_)
        · -- 47 taken
          exact absurd c47 (by decide)
        · -- 47 on
          refine lv_iconst (v := 2) hx hb dX4_receive_50 (by decide) ?_
          refine lv_goto (tgt := 68) hx hb dX4_receive_51 (by decide) ?_
          refine zcVi (ci := 4) (q0 := 0) (wf := (fun (u : Nat → Nat → Int32) => (wM a cI cZ u))) (List.range 21) ⟨hx, hb, hml, hown, hts⟩ (zwAll 21 (by decide) rfl hP hD hS hA) hK (c_X4_refused_k l D cI cZ a H.size (M) (2) (by first | rfl | decide)) (cwV 1 hts gX4_receive_X4_refused rfl rfl rfl (by decide +kernel) ⟨Nat.le_of_ble_eq_true rfl, Nat.le_of_ble_eq_true rfl⟩) rfl rfl (by decide) (fun _ => rfl) rfl hl.1 rfl (Nat.le_of_ble_eq_true rfl) dX4_receive_68 ⟨Nat.le_of_ble_eq_true rfl, Nat.le_of_ble_eq_true rfl⟩ (fun r68 u H locs hw hP hD hS => ?_)
          obtain ⟨rfl, rfl⟩ := hw
          have hP : va_P D vwCl (wM a cI cZ (pt (M) 0 0 (2))) H := hP
          have hD : va_D A (wM a cI cZ (pt (M) 0 0 (2))) := hD
          refine lv_if_eq (tgt := 76) hx hb dX4_receive_71 (by decide) (fun c71 => ?_) (fun c71 => ?_)
          · -- 71 taken
            exact absurd c71 (by decide)
          · -- 71 on
            refine lv_iconst (v := 0) hx hb dX4_receive_74 (by decide) ?_
            exact W.iret (v := 0) hx hb hr (fun t ht hW => ⟨⟨0, (pt (M) 0 0 (2)), rfl, ⟨rfl, by rw [rK2 (Or.inr c38) (fun z => c7 z.1)]; rfl⟩, by rw [ht]; exact hP, va_K.moved hW.alike hK, hD⟩, hS.F ht⟩) hS.2.2 dX4_receive_75
      · -- 38 on
        have c38 := b2_0 c38
        refine lv_iconst (v := 1) hx hb dX4_receive_41 (by decide) ?_
        refine lv_goto (tgt := 68) hx hb dX4_receive_42 (by decide) ?_
        refine zcVi (ci := 4) (q0 := 0) (wf := (fun (u : Nat → Nat → Int32) => (wM a cI cZ u))) (List.range 21) ⟨hx, hb, hml, hown, hts⟩ (zwAll 21 (by decide) rfl hP hD hS hA) hK (c_X4_refused_k l D cI cZ a H.size (M) (1) (by first | rfl | decide)) (cwV 1 hts gX4_receive_X4_refused rfl rfl rfl (by decide +kernel) ⟨Nat.le_of_ble_eq_true rfl, Nat.le_of_ble_eq_true rfl⟩) rfl rfl (by decide) (fun _ => rfl) rfl hl.1 rfl (Nat.le_of_ble_eq_true rfl) dX4_receive_68 ⟨Nat.le_of_ble_eq_true rfl, Nat.le_of_ble_eq_true rfl⟩ (fun r68 u H locs hw hP hD hS => ?_)
        obtain ⟨rfl, rfl⟩ := hw
        have hP : va_P D vwCl (wM a cI cZ (pt (M) 0 0 (1))) H := hP
        have hD : va_D A (wM a cI cZ (pt (M) 0 0 (1))) := hD
        refine lv_if_eq (tgt := 76) hx hb dX4_receive_71 (by decide) (fun c71 => ?_) (fun c71 => ?_)
        · -- 71 taken
          exact absurd c71 (by decide)
        · -- 71 on
          refine lv_iconst (v := 0) hx hb dX4_receive_74 (by decide) ?_
          exact W.iret (v := 0) hx hb hr (fun t ht hW => ⟨⟨0, (pt (M) 0 0 (1)), rfl, ⟨rfl, by rw [rK1 c31 c38]; rfl⟩, by rw [ht]; exact hP, va_K.moved hW.alike hK, hD⟩, hS.F ht⟩) hS.2.2 dX4_receive_75
  · -- 7 on
    have c7 := b2_1 c7
    refine lv_iload_n hx hb dX4_receive_10 rfl (lv_at hl 3 rfl) ?_
    refine lv_iconst (v := 0) hx hb dX4_receive_11 (by decide) ?_
    refine lv_sipush (v := 9999) hx hb dX4_receive_12 (by decide) ?_
    refine zcSi (wf := (fun (u : Unit) => (wM a cI cZ M))) (List.range 21) ⟨hx, hb, hml, hown, hts⟩ (zwNo 21 (by decide) rfl hP hD hS hA) hK (c_X4_in l D cI cZ a H.size (rf) (0) (9999) ) (cwS 3 hts gX4_receive_X4_in rfl rfl rfl (by decide +kernel) ⟨Nat.le_of_ble_eq_true rfl, Nat.le_of_ble_eq_true rfl⟩) (by decide) (fun _ => rfl) rfl hl.1 rfl (Nat.le_of_ble_eq_true rfl) dX4_receive_15 ⟨Nat.le_of_ble_eq_true rfl, Nat.le_of_ble_eq_true rfl⟩ (fun r15 u H locs hw hP hD hS => ?_)
    subst hw
    refine lv_if_eq (tgt := 25) hx hb dX4_receive_18 (by decide) (fun c18 => ?_) (fun c18 => ?_)
    · -- 18 taken
      have c18 := b2_0 c18
      refine lv_iconst (v := 0) hx hb dX4_receive_25 (by decide) ?_
      refine lv_istore (lv' := [(4, .int (0)), (0, .ref (a 0)), (1, .int (cu)), (2, .int (am)), (3, .int (rf))]) hx hb dX4_receive_26 hl (by decide) rfl (fun ls hl => ?_)
      refine lv_aload_n hx hb dX4_receive_28 rfl (lv_at hl 1 rfl) ?_
      refine lv_iload_n hx hb dX4_receive_29 rfl (lv_at hl 2 rfl) ?_
      refine lv_iconst (v := (-1)) hx hb dX4_receive_30 (by decide) ?_
      refine lv_icmp_eq (tgt := 45) hx hb dX4_receive_31 (by decide) (fun c31 => ?_) (fun c31 => ?_)
      · -- 31 taken
        refine lv_iload hx hb dX4_receive_45 (lv_at hl 0 rfl) ?_
        refine lv_if_ne (tgt := 54) hx hb dX4_receive_47 (by decide) (fun c47 => ?_) (fun c47 => ?_)
        · -- 47 taken
          exact absurd c47 (by decide)
        · -- 47 on
          refine lv_iconst (v := 2) hx hb dX4_receive_50 (by decide) ?_
          refine lv_goto (tgt := 68) hx hb dX4_receive_51 (by decide) ?_
          refine zcVi (ci := 4) (q0 := 0) (wf := (fun (u : Nat → Nat → Int32) => (wM a cI cZ u))) (List.range 21) ⟨hx, hb, hml, hown, hts⟩ (zwAll 21 (by decide) rfl hP hD hS hA) hK (c_X4_refused_k l D cI cZ a H.size (M) (2) (by first | rfl | decide)) (cwV 1 hts gX4_receive_X4_refused rfl rfl rfl (by decide +kernel) ⟨Nat.le_of_ble_eq_true rfl, Nat.le_of_ble_eq_true rfl⟩) rfl rfl (by decide) (fun _ => rfl) rfl hl.1 rfl (Nat.le_of_ble_eq_true rfl) dX4_receive_68 ⟨Nat.le_of_ble_eq_true rfl, Nat.le_of_ble_eq_true rfl⟩ (fun r68 u H locs hw hP hD hS => ?_)
          obtain ⟨rfl, rfl⟩ := hw
          have hP : va_P D vwCl (wM a cI cZ (pt (M) 0 0 (2))) H := hP
          have hD : va_D A (wM a cI cZ (pt (M) 0 0 (2))) := hD
          refine lv_if_eq (tgt := 76) hx hb dX4_receive_71 (by decide) (fun c71 => ?_) (fun c71 => ?_)
          · -- 71 taken
            exact absurd c71 (by decide)
          · -- 71 on
            refine lv_iconst (v := 0) hx hb dX4_receive_74 (by decide) ?_
            exact W.iret (v := 0) hx hb hr (fun t ht hW => ⟨⟨0, (pt (M) 0 0 (2)), rfl, ⟨rfl, by rw [rK2 (Or.inl c31) (fun z => c18 z.2)]; rfl⟩, by rw [ht]; exact hP, va_K.moved hW.alike hK, hD⟩, hS.F ht⟩) hS.2.2 dX4_receive_75
      · -- 31 on
        refine lv_iload_n hx hb dX4_receive_34 rfl (lv_at hl 2 rfl) ?_
        refine zcSi (wf := (fun (u : Unit) => (wM a cI cZ M))) (List.range 21) ⟨hx, hb, hml, hown, hts⟩ (zwNo 21 (by decide) rfl hP hD hS hA) hK (c_X4_isCustomer l D cI cZ a H.size (cu) ) (cwS 1 hts gX4_receive_X4_isCustomer rfl rfl rfl (by decide +kernel) ⟨Nat.le_of_ble_eq_true rfl, Nat.le_of_ble_eq_true rfl⟩) (by decide) (fun _ => rfl) rfl hl.1 rfl (Nat.le_of_ble_eq_true rfl) dX4_receive_35 ⟨Nat.le_of_ble_eq_true rfl, Nat.le_of_ble_eq_true rfl⟩ (fun r35 u H locs hw hP hD hS => ?_)
        subst hw
        refine lv_if_ne (tgt := 45) hx hb dX4_receive_38 (by decide) (fun c38 => ?_) (fun c38 => ?_)
        · -- 38 taken
          have c38 := b2_1 c38
          refine lv_iload hx hb dX4_receive_45 (lv_at hl 0 rfl) ?_
          refine lv_if_ne (tgt := 54) hx hb dX4_receive_47 (by decide) (fun c47 => ?_) (fun c47 => ?_)
          · -- 47 taken
            exact absurd c47 (by decide)
          · -- 47 on
            refine lv_iconst (v := 2) hx hb dX4_receive_50 (by decide) ?_
            refine lv_goto (tgt := 68) hx hb dX4_receive_51 (by decide) ?_
            refine zcVi (ci := 4) (q0 := 0) (wf := (fun (u : Nat → Nat → Int32) => (wM a cI cZ u))) (List.range 21) ⟨hx, hb, hml, hown, hts⟩ (zwAll 21 (by decide) rfl hP hD hS hA) hK (c_X4_refused_k l D cI cZ a H.size (M) (2) (by first | rfl | decide)) (cwV 1 hts gX4_receive_X4_refused rfl rfl rfl (by decide +kernel) ⟨Nat.le_of_ble_eq_true rfl, Nat.le_of_ble_eq_true rfl⟩) rfl rfl (by decide) (fun _ => rfl) rfl hl.1 rfl (Nat.le_of_ble_eq_true rfl) dX4_receive_68 ⟨Nat.le_of_ble_eq_true rfl, Nat.le_of_ble_eq_true rfl⟩ (fun r68 u H locs hw hP hD hS => ?_)
            obtain ⟨rfl, rfl⟩ := hw
            have hP : va_P D vwCl (wM a cI cZ (pt (M) 0 0 (2))) H := hP
            have hD : va_D A (wM a cI cZ (pt (M) 0 0 (2))) := hD
            refine lv_if_eq (tgt := 76) hx hb dX4_receive_71 (by decide) (fun c71 => ?_) (fun c71 => ?_)
            · -- 71 taken
              exact absurd c71 (by decide)
            · -- 71 on
              refine lv_iconst (v := 0) hx hb dX4_receive_74 (by decide) ?_
              exact W.iret (v := 0) hx hb hr (fun t ht hW => ⟨⟨0, (pt (M) 0 0 (2)), rfl, ⟨rfl, by rw [rK2 (Or.inr c38) (fun z => c18 z.2)]; rfl⟩, by rw [ht]; exact hP, va_K.moved hW.alike hK, hD⟩, hS.F ht⟩) hS.2.2 dX4_receive_75
        · -- 38 on
          have c38 := b2_0 c38
          refine lv_iconst (v := 1) hx hb dX4_receive_41 (by decide) ?_
          refine lv_goto (tgt := 68) hx hb dX4_receive_42 (by decide) ?_
          refine zcVi (ci := 4) (q0 := 0) (wf := (fun (u : Nat → Nat → Int32) => (wM a cI cZ u))) (List.range 21) ⟨hx, hb, hml, hown, hts⟩ (zwAll 21 (by decide) rfl hP hD hS hA) hK (c_X4_refused_k l D cI cZ a H.size (M) (1) (by first | rfl | decide)) (cwV 1 hts gX4_receive_X4_refused rfl rfl rfl (by decide +kernel) ⟨Nat.le_of_ble_eq_true rfl, Nat.le_of_ble_eq_true rfl⟩) rfl rfl (by decide) (fun _ => rfl) rfl hl.1 rfl (Nat.le_of_ble_eq_true rfl) dX4_receive_68 ⟨Nat.le_of_ble_eq_true rfl, Nat.le_of_ble_eq_true rfl⟩ (fun r68 u H locs hw hP hD hS => ?_)
          obtain ⟨rfl, rfl⟩ := hw
          have hP : va_P D vwCl (wM a cI cZ (pt (M) 0 0 (1))) H := hP
          have hD : va_D A (wM a cI cZ (pt (M) 0 0 (1))) := hD
          refine lv_if_eq (tgt := 76) hx hb dX4_receive_71 (by decide) (fun c71 => ?_) (fun c71 => ?_)
          · -- 71 taken
            exact absurd c71 (by decide)
          · -- 71 on
            refine lv_iconst (v := 0) hx hb dX4_receive_74 (by decide) ?_
            exact W.iret (v := 0) hx hb hr (fun t ht hW => ⟨⟨0, (pt (M) 0 0 (1)), rfl, ⟨rfl, by rw [rK1 c31 c38]; rfl⟩, by rw [ht]; exact hP, va_K.moved hW.alike hK, hD⟩, hS.F ht⟩) hS.2.2 dX4_receive_75
    · -- 18 on
      have c18 := b2_1 c18
      refine lv_iconst (v := 1) hx hb dX4_receive_21 (by decide) ?_
      refine lv_goto (tgt := 26) hx hb dX4_receive_22 (by decide) ?_
      refine lv_istore (lv' := [(4, .int (1)), (0, .ref (a 0)), (1, .int (cu)), (2, .int (am)), (3, .int (rf))]) hx hb dX4_receive_26 hl (by decide) rfl (fun ls hl => ?_)
      refine lv_aload_n hx hb dX4_receive_28 rfl (lv_at hl 1 rfl) ?_
      refine lv_iload_n hx hb dX4_receive_29 rfl (lv_at hl 2 rfl) ?_
      refine lv_iconst (v := (-1)) hx hb dX4_receive_30 (by decide) ?_
      refine lv_icmp_eq (tgt := 45) hx hb dX4_receive_31 (by decide) (fun c31 => ?_) (fun c31 => ?_)
      · -- 31 taken
        refine lv_iload hx hb dX4_receive_45 (lv_at hl 0 rfl) ?_
        refine lv_if_ne (tgt := 54) hx hb dX4_receive_47 (by decide) (fun c47 => ?_) (fun c47 => ?_)
        · -- 47 taken
          refine lv_aload_n hx hb dX4_receive_54 rfl (lv_at hl 1 rfl) ?_
          refine va_get (D := D) (ci := 4) (v := .int (nI (q))) (C := RX4) (T := TX4) (N := 24) hx hb hts (fun w h => List.mem_cons_of_mem _ (List.mem_append_right _ h)) hown hK hP 0 rfl rfl 15 (by decide) (hts (.fieldLink RX4 82 "CashAllocatorModel" "receipts" "I") (by decide +kernel)) (fun _ h9 => h9) (congrArg (fun z => some (Value.int z)) hMq) dX4_receive_55 ?_
          refine lv_bipush (v := nI (30)) hx hb dX4_receive_58 (by decide) ?_
          refine lv_icmp_ne (tgt := 67) hx hb dX4_receive_60 (by decide) (fun c60 => ?_) (fun c60 => ?_)
          · -- 60 taken
            rw [nI_eq (by omega) (by omega)] at c60
            refine lv_iconst (v := 0) hx hb dX4_receive_67 (by decide) ?_
            refine zcVi (ci := 4) (q0 := 0) (wf := (fun (u : Nat → Nat → Int32) => (wM a cI cZ u))) (List.range 21) ⟨hx, hb, hml, hown, hts⟩ (zwAll 21 (by decide) rfl hP hD hS hA) hK (c_X4_refused_0 l D cI cZ a H.size (M) (0) (by first | rfl | decide)) (cwV 1 hts gX4_receive_X4_refused rfl rfl rfl (by decide +kernel) ⟨Nat.le_of_ble_eq_true rfl, Nat.le_of_ble_eq_true rfl⟩) rfl rfl (by decide) (fun _ => rfl) rfl hl.1 rfl (Nat.le_of_ble_eq_true rfl) dX4_receive_68 ⟨Nat.le_of_ble_eq_true rfl, Nat.le_of_ble_eq_true rfl⟩ (fun r68 u H locs hw hP hD hS => ?_)
            obtain ⟨rfl, rfl⟩ := hw
            have hP : va_P D vwCl (wM a cI cZ (pt (M) 0 0 0)) H := hP
            have hD : va_D A (wM a cI cZ (pt (M) 0 0 0)) := hD
            refine lv_if_eq (tgt := 76) hx hb dX4_receive_71 (by decide) (fun c71 => ?_) (fun c71 => ?_)
            · -- 71 taken
              exact absurd (rK0 (Or.inl c31) ⟨c7, c18⟩ (by omega)) hk
            · -- 71 on
              exact absurd c71 (by decide)
          · -- 60 on
            rw [nI_eq (by omega) (by omega)] at c60
            refine lv_iconst (v := 3) hx hb dX4_receive_63 (by decide) ?_
            refine lv_goto (tgt := 68) hx hb dX4_receive_64 (by decide) ?_
            refine zcVi (ci := 4) (q0 := 0) (wf := (fun (u : Nat → Nat → Int32) => (wM a cI cZ u))) (List.range 21) ⟨hx, hb, hml, hown, hts⟩ (zwAll 21 (by decide) rfl hP hD hS hA) hK (c_X4_refused_k l D cI cZ a H.size (M) (3) (by first | rfl | decide)) (cwV 1 hts gX4_receive_X4_refused rfl rfl rfl (by decide +kernel) ⟨Nat.le_of_ble_eq_true rfl, Nat.le_of_ble_eq_true rfl⟩) rfl rfl (by decide) (fun _ => rfl) rfl hl.1 rfl (Nat.le_of_ble_eq_true rfl) dX4_receive_68 ⟨Nat.le_of_ble_eq_true rfl, Nat.le_of_ble_eq_true rfl⟩ (fun r68 u H locs hw hP hD hS => ?_)
            obtain ⟨rfl, rfl⟩ := hw
            have hP : va_P D vwCl (wM a cI cZ (pt (M) 0 0 (3))) H := hP
            have hD : va_D A (wM a cI cZ (pt (M) 0 0 (3))) := hD
            refine lv_if_eq (tgt := 76) hx hb dX4_receive_71 (by decide) (fun c71 => ?_) (fun c71 => ?_)
            · -- 71 taken
              exact absurd c71 (by decide)
            · -- 71 on
              refine lv_iconst (v := 0) hx hb dX4_receive_74 (by decide) ?_
              exact W.iret (v := 0) hx hb hr (fun t ht hW => ⟨⟨0, (pt (M) 0 0 (3)), rfl, ⟨rfl, by rw [rK3 (Or.inl c31) ⟨c7, c18⟩ c60]; rfl⟩, by rw [ht]; exact hP, va_K.moved hW.alike hK, hD⟩, hS.F ht⟩) hS.2.2 dX4_receive_75
        · -- 47 on
          exact absurd c47 (by decide)
      · -- 31 on
        refine lv_iload_n hx hb dX4_receive_34 rfl (lv_at hl 2 rfl) ?_
        refine zcSi (wf := (fun (u : Unit) => (wM a cI cZ M))) (List.range 21) ⟨hx, hb, hml, hown, hts⟩ (zwNo 21 (by decide) rfl hP hD hS hA) hK (c_X4_isCustomer l D cI cZ a H.size (cu) ) (cwS 1 hts gX4_receive_X4_isCustomer rfl rfl rfl (by decide +kernel) ⟨Nat.le_of_ble_eq_true rfl, Nat.le_of_ble_eq_true rfl⟩) (by decide) (fun _ => rfl) rfl hl.1 rfl (Nat.le_of_ble_eq_true rfl) dX4_receive_35 ⟨Nat.le_of_ble_eq_true rfl, Nat.le_of_ble_eq_true rfl⟩ (fun r35 u H locs hw hP hD hS => ?_)
        subst hw
        refine lv_if_ne (tgt := 45) hx hb dX4_receive_38 (by decide) (fun c38 => ?_) (fun c38 => ?_)
        · -- 38 taken
          have c38 := b2_1 c38
          refine lv_iload hx hb dX4_receive_45 (lv_at hl 0 rfl) ?_
          refine lv_if_ne (tgt := 54) hx hb dX4_receive_47 (by decide) (fun c47 => ?_) (fun c47 => ?_)
          · -- 47 taken
            refine lv_aload_n hx hb dX4_receive_54 rfl (lv_at hl 1 rfl) ?_
            refine va_get (D := D) (ci := 4) (v := .int (nI (q))) (C := RX4) (T := TX4) (N := 24) hx hb hts (fun w h => List.mem_cons_of_mem _ (List.mem_append_right _ h)) hown hK hP 0 rfl rfl 15 (by decide) (hts (.fieldLink RX4 82 "CashAllocatorModel" "receipts" "I") (by decide +kernel)) (fun _ h9 => h9) (congrArg (fun z => some (Value.int z)) hMq) dX4_receive_55 ?_
            refine lv_bipush (v := nI (30)) hx hb dX4_receive_58 (by decide) ?_
            refine lv_icmp_ne (tgt := 67) hx hb dX4_receive_60 (by decide) (fun c60 => ?_) (fun c60 => ?_)
            · -- 60 taken
              rw [nI_eq (by omega) (by omega)] at c60
              refine lv_iconst (v := 0) hx hb dX4_receive_67 (by decide) ?_
              refine zcVi (ci := 4) (q0 := 0) (wf := (fun (u : Nat → Nat → Int32) => (wM a cI cZ u))) (List.range 21) ⟨hx, hb, hml, hown, hts⟩ (zwAll 21 (by decide) rfl hP hD hS hA) hK (c_X4_refused_0 l D cI cZ a H.size (M) (0) (by first | rfl | decide)) (cwV 1 hts gX4_receive_X4_refused rfl rfl rfl (by decide +kernel) ⟨Nat.le_of_ble_eq_true rfl, Nat.le_of_ble_eq_true rfl⟩) rfl rfl (by decide) (fun _ => rfl) rfl hl.1 rfl (Nat.le_of_ble_eq_true rfl) dX4_receive_68 ⟨Nat.le_of_ble_eq_true rfl, Nat.le_of_ble_eq_true rfl⟩ (fun r68 u H locs hw hP hD hS => ?_)
              obtain ⟨rfl, rfl⟩ := hw
              have hP : va_P D vwCl (wM a cI cZ (pt (M) 0 0 0)) H := hP
              have hD : va_D A (wM a cI cZ (pt (M) 0 0 0)) := hD
              refine lv_if_eq (tgt := 76) hx hb dX4_receive_71 (by decide) (fun c71 => ?_) (fun c71 => ?_)
              · -- 71 taken
                exact absurd (rK0 (Or.inr c38) ⟨c7, c18⟩ (by omega)) hk
              · -- 71 on
                exact absurd c71 (by decide)
            · -- 60 on
              rw [nI_eq (by omega) (by omega)] at c60
              refine lv_iconst (v := 3) hx hb dX4_receive_63 (by decide) ?_
              refine lv_goto (tgt := 68) hx hb dX4_receive_64 (by decide) ?_
              refine zcVi (ci := 4) (q0 := 0) (wf := (fun (u : Nat → Nat → Int32) => (wM a cI cZ u))) (List.range 21) ⟨hx, hb, hml, hown, hts⟩ (zwAll 21 (by decide) rfl hP hD hS hA) hK (c_X4_refused_k l D cI cZ a H.size (M) (3) (by first | rfl | decide)) (cwV 1 hts gX4_receive_X4_refused rfl rfl rfl (by decide +kernel) ⟨Nat.le_of_ble_eq_true rfl, Nat.le_of_ble_eq_true rfl⟩) rfl rfl (by decide) (fun _ => rfl) rfl hl.1 rfl (Nat.le_of_ble_eq_true rfl) dX4_receive_68 ⟨Nat.le_of_ble_eq_true rfl, Nat.le_of_ble_eq_true rfl⟩ (fun r68 u H locs hw hP hD hS => ?_)
              obtain ⟨rfl, rfl⟩ := hw
              have hP : va_P D vwCl (wM a cI cZ (pt (M) 0 0 (3))) H := hP
              have hD : va_D A (wM a cI cZ (pt (M) 0 0 (3))) := hD
              refine lv_if_eq (tgt := 76) hx hb dX4_receive_71 (by decide) (fun c71 => ?_) (fun c71 => ?_)
              · -- 71 taken
                exact absurd c71 (by decide)
              · -- 71 on
                refine lv_iconst (v := 0) hx hb dX4_receive_74 (by decide) ?_
                exact W.iret (v := 0) hx hb hr (fun t ht hW => ⟨⟨0, (pt (M) 0 0 (3)), rfl, ⟨rfl, by rw [rK3 (Or.inr c38) ⟨c7, c18⟩ c60]; rfl⟩, by rw [ht]; exact hP, va_K.moved hW.alike hK, hD⟩, hS.F ht⟩) hS.2.2 dX4_receive_75
          · -- 47 on
            exact absurd c47 (by decide)
        · -- 38 on
          have c38 := b2_0 c38
          refine lv_iconst (v := 1) hx hb dX4_receive_41 (by decide) ?_
          refine lv_goto (tgt := 68) hx hb dX4_receive_42 (by decide) ?_
          refine zcVi (ci := 4) (q0 := 0) (wf := (fun (u : Nat → Nat → Int32) => (wM a cI cZ u))) (List.range 21) ⟨hx, hb, hml, hown, hts⟩ (zwAll 21 (by decide) rfl hP hD hS hA) hK (c_X4_refused_k l D cI cZ a H.size (M) (1) (by first | rfl | decide)) (cwV 1 hts gX4_receive_X4_refused rfl rfl rfl (by decide +kernel) ⟨Nat.le_of_ble_eq_true rfl, Nat.le_of_ble_eq_true rfl⟩) rfl rfl (by decide) (fun _ => rfl) rfl hl.1 rfl (Nat.le_of_ble_eq_true rfl) dX4_receive_68 ⟨Nat.le_of_ble_eq_true rfl, Nat.le_of_ble_eq_true rfl⟩ (fun r68 u H locs hw hP hD hS => ?_)
          obtain ⟨rfl, rfl⟩ := hw
          have hP : va_P D vwCl (wM a cI cZ (pt (M) 0 0 (1))) H := hP
          have hD : va_D A (wM a cI cZ (pt (M) 0 0 (1))) := hD
          refine lv_if_eq (tgt := 76) hx hb dX4_receive_71 (by decide) (fun c71 => ?_) (fun c71 => ?_)
          · -- 71 taken
            exact absurd c71 (by decide)
          · -- 71 on
            refine lv_iconst (v := 0) hx hb dX4_receive_74 (by decide) ?_
            exact W.iret (v := 0) hx hb hr (fun t ht hW => ⟨⟨0, (pt (M) 0 0 (1)), rfl, ⟨rfl, by rw [rK1 c31 c38]; rfl⟩, by rw [ht]; exact hP, va_K.moved hW.alike hK, hD⟩, hS.F ht⟩) hS.2.2 dX4_receive_75
set_option maxHeartbeats 4000000 in
set_option maxRecDepth 100000 in
theorem c_X4_assign_0 (l : Launch) (D : va_G) (cI cZ : ClassId) (a : Nat → Nat) (sz : Nat) (M : Nat → Nat → Int32) (n : Nat) (q : Nat) (rc : Nat) (cu : Int32) (hM : M 2 0 = nI n) (hn : n ≤ 40) (hMq : M 15 0 = nI q) (hq : q ≤ 30) (hrq : rc < q) (h1 : ¬ cu < 0) (h2 : cu < 8) (h5 : M 20 rc = 0) (h0 : M 17 rc = -1) (hso : ∀ i j, i ≤ j → j < n → M 6 i ≤ M 6 j) (hs0 : ∀ i, i < n → 0 ≤ M 6 i) : Met l yX4_assign wsX4_assign ({ frames := 6, cells := 0, slots := 0, locals := 147 } : Room) (va_Pc [.ref (a 0), .int (nI (rc)), .int (cu)] (PreW D cI cZ (wM a cI cZ M) sz)) (va_Qi (fun (r : Int32) (u : Nat → Nat → Int32) => r = moth (pt (pt M 0 0 0) 17 rc cu) rc n 18 rc ∧ u = moth (pt (pt M 0 0 0) 17 rc cu) rc n) (fun (u : Nat → Nat → Int32) => PostW D cI cZ (va_A (wM a cI cZ M) sz) (wM a cI cZ u)) (va_A (wM a cI cZ M) sz)) 0 0 (va_A (wM a cI cZ M) sz) := by
  refine Met.ofW (cc := cX4_assign) (maxL := 4) (ret := (some .int)) (by decide) rfl ?_
  intro p e s m args below meth c s₁ BB hml hv
  obtain ⟨rfl, hsz, hP, hK, hD0⟩ := hv
  have hx := BB.exec
  have hb := BB.bytes
  have hr := BB.returns
  have hts := atoms_spec (ws := wsX4_assign) BB.pre
  have hown : s.vm.findClass RX4 = some m.cls := findClass_of_methodNamed BB.named
  have hlocks := BB.notSynchronized
  clear BB
  subst hsz
  have hD := hD0.self (sz := s.heap.size)
  clear hD0
  generalize hAe : va_A (wM a cI cZ M) s.heap.size = A at hD ⊢
  have hA : ∀ q : Nat, s.heap.size ≤ q → A q := fun q h => by rw [← hAe]; exact Or.inr h
  clear hAe
  have hS : va_S A s.heap s.heap [] := va_S.rf
  have hl := lv_entry ([.ref (a 0), .int (nI (rc)), .int (cu)]) (n := 4) (Nat.le_of_ble_eq_true rfl)
  rw [lg_entry_eq]
  generalize (lg_sl ([.ref (a 0), .int (nI (rc)), .int (cu)]) ++ List.replicate (4 - (lg_sl ([.ref (a 0), .int (nI (rc)), .int (cu)])).length) Slot.unset).toArray = ls at hl ⊢
  have hl : lv_has ls 4 [(0, .ref (a 0)), (1, .int (nI (rc))), (2, .int (cu))] := hl
  generalize hHe : s.heap = H at hP
  have hS : va_S A s.heap H [] := by rw [← hHe]; exact va_S.rf
  clear hHe
  generalize hLe : ([] : List Loc) = locs at hS ⊢
  clear hLe
  refine lv_aload_n hx hb dX4_assign_0 rfl (lv_at hl 0 rfl) ?_
  refine lv_iload_n hx hb dX4_assign_1 rfl (lv_at hl 1 rfl) ?_
  refine zcVi (ci := 4) (q0 := 0) (wf := (fun (u : Unit) => (wM a cI cZ M))) (List.range 21) ⟨hx, hb, hml, hown, hts⟩ (zwAll 21 (by decide) rfl hP hD hS hA) hK (c_X4_isReceipt l D cI cZ a H.size (M) (nI (rc)) (q) (by first | assumption | omega) (by first | assumption | omega)) (cwV 1 hts gX4_assign_X4_isReceipt rfl rfl rfl (by decide +kernel) ⟨Nat.le_of_ble_eq_true rfl, Nat.le_of_ble_eq_true rfl⟩) rfl rfl (by decide) (fun _ => rfl) rfl hl.1 rfl (Nat.le_of_ble_eq_true rfl) dX4_assign_2 ⟨Nat.le_of_ble_eq_true rfl, Nat.le_of_ble_eq_true rfl⟩ (fun r2 u H locs hw hP hD hS => ?_)
  subst hw
  refine lv_if_eq (tgt := 19) hx hb dX4_assign_5 (by decide) (fun c5 => ?_) (fun c5 => ?_)
  · -- 5 taken
    have c5 := b2_0 c5
    exact absurd ⟨nI_pos (by omega), (nI_ltI (by omega) (by omega)).mpr hrq⟩ c5
  · -- 5 on
    have c5 := b2_1 c5
    refine lv_iload_n hx hb dX4_assign_8 rfl (lv_at hl 2 rfl) ?_
    refine zcSi (wf := (fun (u : Unit) => (wM a cI cZ M))) (List.range 21) ⟨hx, hb, hml, hown, hts⟩ (zwNo 21 (by decide) rfl hP hD hS hA) hK (c_X4_isCustomer l D cI cZ a H.size (cu) ) (cwS 1 hts gX4_assign_X4_isCustomer rfl rfl rfl (by decide +kernel) ⟨Nat.le_of_ble_eq_true rfl, Nat.le_of_ble_eq_true rfl⟩) (by decide) (fun _ => rfl) rfl hl.1 rfl (Nat.le_of_ble_eq_true rfl) dX4_assign_9 ⟨Nat.le_of_ble_eq_true rfl, Nat.le_of_ble_eq_true rfl⟩ (fun r9 u H locs hw hP hD hS => ?_)
    subst hw
    refine lv_if_eq (tgt := 19) hx hb dX4_assign_12 (by decide) (fun c12 => ?_) (fun c12 => ?_)
    · -- 12 taken
      have c12 := b2_0 c12
      exact absurd ⟨h1, h2⟩ c12
    · -- 12 on
      have c12 := b2_1 c12
      refine lv_iconst (v := 1) hx hb dX4_assign_15 (by decide) ?_
      refine lv_goto (tgt := 20) hx hb dX4_assign_16 (by decide) ?_
      refine lv_istore_n (lv' := [(3, .int (1)), (0, .ref (a 0)), (1, .int (nI (rc))), (2, .int (cu))]) hx hb dX4_assign_20 rfl hl (by decide) rfl (fun ls hl => ?_)
      refine lv_aload_n hx hb dX4_assign_21 rfl (lv_at hl 1 rfl) ?_
      refine lv_iload_n hx hb dX4_assign_22 rfl (lv_at hl 0 rfl) ?_
      refine lv_if_ne (tgt := 30) hx hb dX4_assign_23 (by decide) (fun c23 => ?_) (fun c23 => ?_)
      · -- 23 taken
        refine lv_aload_n hx hb dX4_assign_30 rfl (lv_at hl 1 rfl) ?_
        refine va_get (D := D) (ci := 4) (v := .ref (a 14)) (C := RX4) (T := TX4) (N := 24) hx hb hts (fun w h => List.mem_cons_of_mem _ (List.mem_append_right _ h)) hown hK hP 0 rfl rfl 17 (by decide) (hts (.fieldLink RX4 49 "CashAllocatorModel" "payers" "[I") (by decide +kernel)) (fun _ h9 => h9) rfl dX4_assign_31 ?_
        refine lv_iload_n hx hb dX4_assign_34 rfl (lv_at hl 2 rfl) ?_
        refine zald hx hb hK hP 14 (n := 30) (f := (M 17)) rfl (rc) rfl (by omega) (by decide) dX4_assign_35 ?_
        refine lv_iconst (v := (-1)) hx hb dX4_assign_36 (by decide) ?_
        refine lv_icmp_ne (tgt := 49) hx hb dX4_assign_37 (by decide) (fun c37 => ?_) (fun c37 => ?_)
        · -- 37 taken
          exact absurd h0 c37
        · -- 37 on
          refine lv_aload_n hx hb dX4_assign_40 rfl (lv_at hl 1 rfl) ?_
          refine va_get (D := D) (ci := 4) (v := .ref (a 17)) (C := RX4) (T := TX4) (N := 24) hx hb hts (fun w h => List.mem_cons_of_mem _ (List.mem_append_right _ h)) hown hK hP 0 rfl rfl 20 (by decide) (hts (.fieldLink RX4 58 "CashAllocatorModel" "isBounced" "[Z") (by decide +kernel)) (fun _ h9 => h9) rfl dX4_assign_41 ?_
          refine lv_iload_n hx hb dX4_assign_44 rfl (lv_at hl 2 rfl) ?_
          refine zbld hx hb hK hP 17 (n := 30) (f := (M 20)) rfl (rc) rfl (by omega) (by decide) dX4_assign_45 ?_
          refine lv_if_eq (tgt := 53) hx hb dX4_assign_46 (by decide) (fun c46 => ?_) (fun c46 => ?_)
          · -- 46 taken
            refine lv_iconst (v := 0) hx hb dX4_assign_53 (by decide) ?_
            refine zcVi (ci := 4) (q0 := 0) (wf := (fun (u : Nat → Nat → Int32) => (wM a cI cZ u))) (List.range 21) ⟨hx, hb, hml, hown, hts⟩ (zwAll 21 (by decide) rfl hP hD hS hA) hK (c_X4_refused_0 l D cI cZ a H.size (M) (0) (by first | rfl | decide)) (cwV 1 hts gX4_assign_X4_refused rfl rfl rfl (by decide +kernel) ⟨Nat.le_of_ble_eq_true rfl, Nat.le_of_ble_eq_true rfl⟩) rfl rfl (by decide) (fun _ => rfl) rfl hl.1 rfl (Nat.le_of_ble_eq_true rfl) dX4_assign_54 ⟨Nat.le_of_ble_eq_true rfl, Nat.le_of_ble_eq_true rfl⟩ (fun r54 u H locs hw hP hD hS => ?_)
            obtain ⟨rfl, rfl⟩ := hw
            have hP : va_P D vwCl (wM a cI cZ (pt (M) 0 0 0)) H := hP
            have hD : va_D A (wM a cI cZ (pt (M) 0 0 0)) := hD
            refine lv_if_eq (tgt := 62) hx hb dX4_assign_57 (by decide) (fun c57 => ?_) (fun c57 => ?_)
            · -- 57 taken
              refine lv_aload_n hx hb dX4_assign_62 rfl (lv_at hl 1 rfl) ?_
              refine va_get (D := D) (ci := 4) (v := .ref (a 14)) (C := RX4) (T := TX4) (N := 24) hx hb hts (fun w h => List.mem_cons_of_mem _ (List.mem_append_right _ h)) hown hK hP 0 rfl rfl 17 (by decide) (hts (.fieldLink RX4 49 "CashAllocatorModel" "payers" "[I") (by decide +kernel)) (fun _ h9 => h9) rfl dX4_assign_63 ?_
              refine lv_iload_n hx hb dX4_assign_66 rfl (lv_at hl 2 rfl) ?_
              refine lv_iload_n hx hb dX4_assign_67 rfl (lv_at hl 3 rfl) ?_
              refine zast hx hb hK hP hD hS 14 (n := 30) (f := ((pt (M) 0 0 0) 17)) rfl (rc) rfl (by omega) (by decide) (wM a cI cZ (pt (pt (M) 0 0 0) 17 (rc) (cu))) rfl dX4_assign_68 (fun H locs hP hD hS => ?_)
              refine lv_aload_n hx hb dX4_assign_69 rfl (lv_at hl 1 rfl) ?_
              refine lv_iload_n hx hb dX4_assign_70 rfl (lv_at hl 2 rfl) ?_
              refine zcVv (ci := 4) (q0 := 0) (wf := (fun (u : Nat → Nat → Int32) => (wM a cI cZ u))) (List.range 21) ⟨hx, hb, hml, hown, hts⟩ (zwAll 21 (by decide) rfl hP hD hS hA) hK (c_X4_payOthers l D cI cZ a H.size ((pt (pt (M) 0 0 0) 17 (rc) (cu))) (rc) (n) (by first | assumption | omega) hM (by first | assumption | omega) hso hs0) (cwV 1 hts gX4_assign_X4_payOthers rfl rfl rfl (by decide +kernel) ⟨Nat.le_of_ble_eq_true rfl, Nat.le_of_ble_eq_true rfl⟩) rfl rfl (by decide) (fun _ => rfl) rfl hl.1 rfl (Nat.le_of_ble_eq_true rfl) dX4_assign_71 ⟨Nat.le_of_ble_eq_true rfl, Nat.le_of_ble_eq_true rfl⟩ (fun u H locs hw hP hD hS => ?_)
              subst hw
              have hP : va_P D vwCl (wM a cI cZ (moth ((pt (pt (M) 0 0 0) 17 (rc) (cu))) (rc) n)) H := hP
              have hD : va_D A (wM a cI cZ (moth ((pt (pt (M) 0 0 0) 17 (rc) (cu))) (rc) n)) := hD
              refine lv_aload_n hx hb dX4_assign_74 rfl (lv_at hl 1 rfl) ?_
              refine va_get (D := D) (ci := 4) (v := .ref (a 15)) (C := RX4) (T := TX4) (N := 24) hx hb hts (fun w h => List.mem_cons_of_mem _ (List.mem_append_right _ h)) hown hK hP 0 rfl rfl 18 (by decide) (hts (.fieldLink RX4 52 "CashAllocatorModel" "left" "[I") (by decide +kernel)) (fun _ h9 => h9) rfl dX4_assign_75 ?_
              refine lv_iload_n hx hb dX4_assign_78 rfl (lv_at hl 2 rfl) ?_
              refine zald hx hb hK hP 15 (n := 30) (f := ((moth ((pt (pt (M) 0 0 0) 17 (rc) (cu))) (rc) n) 18)) rfl (rc) rfl (by omega) (by decide) dX4_assign_79 ?_
              exact W.iret (v := (moth ((pt (pt (M) 0 0 0) 17 (rc) (cu))) (rc) n) 18 (rc)) hx hb hr (fun t ht hW => ⟨⟨(moth ((pt (pt (M) 0 0 0) 17 (rc) (cu))) (rc) n) 18 (rc), (moth ((pt (pt (M) 0 0 0) 17 (rc) (cu))) (rc) n), rfl, ⟨rfl, rfl⟩, by rw [ht]; exact hP, va_K.moved hW.alike hK, hD⟩, hS.F ht⟩) hS.2.2 dX4_assign_80
            · -- 57 on
              exact absurd c57 (by decide)
          · -- 46 on
            exact absurd h5 c46
      · -- 23 on
        exact absurd c23 (by decide)
set_option maxHeartbeats 4000000 in
set_option maxRecDepth 100000 in
theorem c_X4_assign_k (l : Launch) (D : va_G) (cI cZ : ClassId) (a : Nat → Nat) (sz : Nat) (M : Nat → Nat → Int32) (q : Nat) (vx : Int32) (cu : Int32) (hMq : M 15 0 = nI q) (hq : q ≤ 30) (hk : ¬ asgK (mR M) vx cu = 0) : Met l yX4_assign wsX4_assign ({ frames := 6, cells := 0, slots := 0, locals := 147 } : Room) (va_Pc [.ref (a 0), .int (vx), .int (cu)] (PreW D cI cZ (wM a cI cZ M) sz)) (va_Qi (fun (r : Int32) (u : Nat → Nat → Int32) => r = 0 ∧ u = pt M 0 0 (nI (asgK (mR M) vx cu))) (fun (u : Nat → Nat → Int32) => PostW D cI cZ (va_A (wM a cI cZ M) sz) (wM a cI cZ u)) (va_A (wM a cI cZ M) sz)) 0 0 (va_A (wM a cI cZ M) sz) := by
  refine Met.ofW (cc := cX4_assign) (maxL := 4) (ret := (some .int)) (by decide) rfl ?_
  intro p e s m args below meth c s₁ BB hml hv
  obtain ⟨rfl, hsz, hP, hK, hD0⟩ := hv
  have hx := BB.exec
  have hb := BB.bytes
  have hr := BB.returns
  have hts := atoms_spec (ws := wsX4_assign) BB.pre
  have hown : s.vm.findClass RX4 = some m.cls := findClass_of_methodNamed BB.named
  have hlocks := BB.notSynchronized
  clear BB
  subst hsz
  have hD := hD0.self (sz := s.heap.size)
  clear hD0
  generalize hAe : va_A (wM a cI cZ M) s.heap.size = A at hD ⊢
  have hA : ∀ q : Nat, s.heap.size ≤ q → A q := fun q h => by rw [← hAe]; exact Or.inr h
  clear hAe
  have hS : va_S A s.heap s.heap [] := va_S.rf
  have hl := lv_entry ([.ref (a 0), .int (vx), .int (cu)]) (n := 4) (Nat.le_of_ble_eq_true rfl)
  rw [lg_entry_eq]
  generalize (lg_sl ([.ref (a 0), .int (vx), .int (cu)]) ++ List.replicate (4 - (lg_sl ([.ref (a 0), .int (vx), .int (cu)])).length) Slot.unset).toArray = ls at hl ⊢
  have hl : lv_has ls 4 [(0, .ref (a 0)), (1, .int (vx)), (2, .int (cu))] := hl
  generalize hHe : s.heap = H at hP
  have hS : va_S A s.heap H [] := by rw [← hHe]; exact va_S.rf
  clear hHe
  generalize hLe : ([] : List Loc) = locs at hS ⊢
  clear hLe
  refine lv_aload_n hx hb dX4_assign_0 rfl (lv_at hl 0 rfl) ?_
  refine lv_iload_n hx hb dX4_assign_1 rfl (lv_at hl 1 rfl) ?_
  refine zcVi (ci := 4) (q0 := 0) (wf := (fun (u : Unit) => (wM a cI cZ M))) (List.range 21) ⟨hx, hb, hml, hown, hts⟩ (zwAll 21 (by decide) rfl hP hD hS hA) hK (c_X4_isReceipt l D cI cZ a H.size (M) (vx) (q) (by first | assumption | omega) (by first | assumption | omega)) (cwV 1 hts gX4_assign_X4_isReceipt rfl rfl rfl (by decide +kernel) ⟨Nat.le_of_ble_eq_true rfl, Nat.le_of_ble_eq_true rfl⟩) rfl rfl (by decide) (fun _ => rfl) rfl hl.1 rfl (Nat.le_of_ble_eq_true rfl) dX4_assign_2 ⟨Nat.le_of_ble_eq_true rfl, Nat.le_of_ble_eq_true rfl⟩ (fun r2 u H locs hw hP hD hS => ?_)
  subst hw
  refine lv_if_eq (tgt := 19) hx hb dX4_assign_5 (by decide) (fun c5 => ?_) (fun c5 => ?_)
  · -- 5 taken
    have c5 := b2_0 c5
    refine lv_iconst (v := 0) hx hb dX4_assign_19 (by decide) ?_
    refine lv_istore_n (lv' := [(3, .int (0)), (0, .ref (a 0)), (1, .int (vx)), (2, .int (cu))]) hx hb dX4_assign_20 rfl hl (by decide) rfl (fun ls hl => ?_)
    refine lv_aload_n hx hb dX4_assign_21 rfl (lv_at hl 1 rfl) ?_
    refine lv_iload_n hx hb dX4_assign_22 rfl (lv_at hl 0 rfl) ?_
    refine lv_if_ne (tgt := 30) hx hb dX4_assign_23 (by decide) (fun c23 => ?_) (fun c23 => ?_)
    · -- 23 taken
      exact absurd c23 (by decide)
    · -- 23 on
      refine lv_iconst (v := 1) hx hb dX4_assign_26 (by decide) ?_
      refine lv_goto (tgt := 54) hx hb dX4_assign_27 (by decide) ?_
      refine zcVi (ci := 4) (q0 := 0) (wf := (fun (u : Nat → Nat → Int32) => (wM a cI cZ u))) (List.range 21) ⟨hx, hb, hml, hown, hts⟩ (zwAll 21 (by decide) rfl hP hD hS hA) hK (c_X4_refused_k l D cI cZ a H.size (M) (1) (by first | rfl | decide)) (cwV 1 hts gX4_assign_X4_refused rfl rfl rfl (by decide +kernel) ⟨Nat.le_of_ble_eq_true rfl, Nat.le_of_ble_eq_true rfl⟩) rfl rfl (by decide) (fun _ => rfl) rfl hl.1 rfl (Nat.le_of_ble_eq_true rfl) dX4_assign_54 ⟨Nat.le_of_ble_eq_true rfl, Nat.le_of_ble_eq_true rfl⟩ (fun r54 u H locs hw hP hD hS => ?_)
      obtain ⟨rfl, rfl⟩ := hw
      have hP : va_P D vwCl (wM a cI cZ (pt (M) 0 0 (1))) H := hP
      have hD : va_D A (wM a cI cZ (pt (M) 0 0 (1))) := hD
      refine lv_if_eq (tgt := 62) hx hb dX4_assign_57 (by decide) (fun c57 => ?_) (fun c57 => ?_)
      · -- 57 taken
        exact absurd c57 (by decide)
      · -- 57 on
        refine lv_iconst (v := 0) hx hb dX4_assign_60 (by decide) ?_
        exact W.iret (v := 0) hx hb hr (fun t ht hW => ⟨⟨0, (pt (M) 0 0 (1)), rfl, ⟨rfl, by rw [show asgK (mR M) vx cu = 1 from if_pos (Or.inl (by rw [show mR M 8 0 = nI q from hMq]; exact dp c5))]; rfl⟩, by rw [ht]; exact hP, va_K.moved hW.alike hK, hD⟩, hS.F ht⟩) hS.2.2 dX4_assign_61
  · -- 5 on
    have c5 := b2_1 c5
    obtain ⟨rc, hrq, ej⟩ := ix_of (n := q) (by omega) c5.1 c5.2
    subst ej
    have hcl : (nI rc).toNatClampNeg = rc := nI_clamp (by omega)
    refine lv_iload_n hx hb dX4_assign_8 rfl (lv_at hl 2 rfl) ?_
    refine zcSi (wf := (fun (u : Unit) => (wM a cI cZ M))) (List.range 21) ⟨hx, hb, hml, hown, hts⟩ (zwNo 21 (by decide) rfl hP hD hS hA) hK (c_X4_isCustomer l D cI cZ a H.size (cu) ) (cwS 1 hts gX4_assign_X4_isCustomer rfl rfl rfl (by decide +kernel) ⟨Nat.le_of_ble_eq_true rfl, Nat.le_of_ble_eq_true rfl⟩) (by decide) (fun _ => rfl) rfl hl.1 rfl (Nat.le_of_ble_eq_true rfl) dX4_assign_9 ⟨Nat.le_of_ble_eq_true rfl, Nat.le_of_ble_eq_true rfl⟩ (fun r9 u H locs hw hP hD hS => ?_)
    subst hw
    refine lv_if_eq (tgt := 19) hx hb dX4_assign_12 (by decide) (fun c12 => ?_) (fun c12 => ?_)
    · -- 12 taken
      have c12 := b2_0 c12
      refine lv_iconst (v := 0) hx hb dX4_assign_19 (by decide) ?_
      refine lv_istore_n (lv' := [(3, .int (0)), (0, .ref (a 0)), (1, .int (nI (rc))), (2, .int (cu))]) hx hb dX4_assign_20 rfl hl (by decide) rfl (fun ls hl => ?_)
      refine lv_aload_n hx hb dX4_assign_21 rfl (lv_at hl 1 rfl) ?_
      refine lv_iload_n hx hb dX4_assign_22 rfl (lv_at hl 0 rfl) ?_
      refine lv_if_ne (tgt := 30) hx hb dX4_assign_23 (by decide) (fun c23 => ?_) (fun c23 => ?_)
      · -- 23 taken
        exact absurd c23 (by decide)
      · -- 23 on
        refine lv_iconst (v := 1) hx hb dX4_assign_26 (by decide) ?_
        refine lv_goto (tgt := 54) hx hb dX4_assign_27 (by decide) ?_
        refine zcVi (ci := 4) (q0 := 0) (wf := (fun (u : Nat → Nat → Int32) => (wM a cI cZ u))) (List.range 21) ⟨hx, hb, hml, hown, hts⟩ (zwAll 21 (by decide) rfl hP hD hS hA) hK (c_X4_refused_k l D cI cZ a H.size (M) (1) (by first | rfl | decide)) (cwV 1 hts gX4_assign_X4_refused rfl rfl rfl (by decide +kernel) ⟨Nat.le_of_ble_eq_true rfl, Nat.le_of_ble_eq_true rfl⟩) rfl rfl (by decide) (fun _ => rfl) rfl hl.1 rfl (Nat.le_of_ble_eq_true rfl) dX4_assign_54 ⟨Nat.le_of_ble_eq_true rfl, Nat.le_of_ble_eq_true rfl⟩ (fun r54 u H locs hw hP hD hS => ?_)
        obtain ⟨rfl, rfl⟩ := hw
        have hP : va_P D vwCl (wM a cI cZ (pt (M) 0 0 (1))) H := hP
        have hD : va_D A (wM a cI cZ (pt (M) 0 0 (1))) := hD
        refine lv_if_eq (tgt := 62) hx hb dX4_assign_57 (by decide) (fun c57 => ?_) (fun c57 => ?_)
        · -- 57 taken
          exact absurd c57 (by decide)
        · -- 57 on
          refine lv_iconst (v := 0) hx hb dX4_assign_60 (by decide) ?_
          exact W.iret (v := 0) hx hb hr (fun t ht hW => ⟨⟨0, (pt (M) 0 0 (1)), rfl, ⟨rfl, by rw [show asgK (mR M) (nI rc) cu = 1 from if_pos (Or.inr (dp c12))]; rfl⟩, by rw [ht]; exact hP, va_K.moved hW.alike hK, hD⟩, hS.F ht⟩) hS.2.2 dX4_assign_61
    · -- 12 on
      have c12 := b2_1 c12
      refine lv_iconst (v := 1) hx hb dX4_assign_15 (by decide) ?_
      refine lv_goto (tgt := 20) hx hb dX4_assign_16 (by decide) ?_
      refine lv_istore_n (lv' := [(3, .int (1)), (0, .ref (a 0)), (1, .int (nI (rc))), (2, .int (cu))]) hx hb dX4_assign_20 rfl hl (by decide) rfl (fun ls hl => ?_)
      refine lv_aload_n hx hb dX4_assign_21 rfl (lv_at hl 1 rfl) ?_
      refine lv_iload_n hx hb dX4_assign_22 rfl (lv_at hl 0 rfl) ?_
      refine lv_if_ne (tgt := 30) hx hb dX4_assign_23 (by decide) (fun c23 => ?_) (fun c23 => ?_)
      · -- 23 taken
        refine lv_aload_n hx hb dX4_assign_30 rfl (lv_at hl 1 rfl) ?_
        refine va_get (D := D) (ci := 4) (v := .ref (a 14)) (C := RX4) (T := TX4) (N := 24) hx hb hts (fun w h => List.mem_cons_of_mem _ (List.mem_append_right _ h)) hown hK hP 0 rfl rfl 17 (by decide) (hts (.fieldLink RX4 49 "CashAllocatorModel" "payers" "[I") (by decide +kernel)) (fun _ h9 => h9) rfl dX4_assign_31 ?_
        refine lv_iload_n hx hb dX4_assign_34 rfl (lv_at hl 2 rfl) ?_
        refine zald hx hb hK hP 14 (n := 30) (f := (M 17)) rfl (rc) rfl (by omega) (by decide) dX4_assign_35 ?_
        refine lv_iconst (v := (-1)) hx hb dX4_assign_36 (by decide) ?_
        refine lv_icmp_ne (tgt := 49) hx hb dX4_assign_37 (by decide) (fun c37 => ?_) (fun c37 => ?_)
        · -- 37 taken
          refine lv_iconst (v := 2) hx hb dX4_assign_49 (by decide) ?_
          refine lv_goto (tgt := 54) hx hb dX4_assign_50 (by decide) ?_
          refine zcVi (ci := 4) (q0 := 0) (wf := (fun (u : Nat → Nat → Int32) => (wM a cI cZ u))) (List.range 21) ⟨hx, hb, hml, hown, hts⟩ (zwAll 21 (by decide) rfl hP hD hS hA) hK (c_X4_refused_k l D cI cZ a H.size (M) (2) (by first | rfl | decide)) (cwV 1 hts gX4_assign_X4_refused rfl rfl rfl (by decide +kernel) ⟨Nat.le_of_ble_eq_true rfl, Nat.le_of_ble_eq_true rfl⟩) rfl rfl (by decide) (fun _ => rfl) rfl hl.1 rfl (Nat.le_of_ble_eq_true rfl) dX4_assign_54 ⟨Nat.le_of_ble_eq_true rfl, Nat.le_of_ble_eq_true rfl⟩ (fun r54 u H locs hw hP hD hS => ?_)
          obtain ⟨rfl, rfl⟩ := hw
          have hP : va_P D vwCl (wM a cI cZ (pt (M) 0 0 (2))) H := hP
          have hD : va_D A (wM a cI cZ (pt (M) 0 0 (2))) := hD
          refine lv_if_eq (tgt := 62) hx hb dX4_assign_57 (by decide) (fun c57 => ?_) (fun c57 => ?_)
          · -- 57 taken
            exact absurd c57 (by decide)
          · -- 57 on
            refine lv_iconst (v := 0) hx hb dX4_assign_60 (by decide) ?_
            exact W.iret (v := 0) hx hb hr (fun t ht hW => ⟨⟨0, (pt (M) 0 0 (2)), rfl, ⟨rfl, by rw [asgK_2 (by rw [show mR M 8 0 = nI q from hMq]; exact dn ⟨nI_pos (by omega), (nI_ltI (by omega) (by omega)).mpr hrq⟩) (dn c12) (by rw [hcl]; exact Or.inr c37)]; rfl⟩, by rw [ht]; exact hP, va_K.moved hW.alike hK, hD⟩, hS.F ht⟩) hS.2.2 dX4_assign_61
        · -- 37 on
          refine lv_aload_n hx hb dX4_assign_40 rfl (lv_at hl 1 rfl) ?_
          refine va_get (D := D) (ci := 4) (v := .ref (a 17)) (C := RX4) (T := TX4) (N := 24) hx hb hts (fun w h => List.mem_cons_of_mem _ (List.mem_append_right _ h)) hown hK hP 0 rfl rfl 20 (by decide) (hts (.fieldLink RX4 58 "CashAllocatorModel" "isBounced" "[Z") (by decide +kernel)) (fun _ h9 => h9) rfl dX4_assign_41 ?_
          refine lv_iload_n hx hb dX4_assign_44 rfl (lv_at hl 2 rfl) ?_
          refine zbld hx hb hK hP 17 (n := 30) (f := (M 20)) rfl (rc) rfl (by omega) (by decide) dX4_assign_45 ?_
          refine lv_if_eq (tgt := 53) hx hb dX4_assign_46 (by decide) (fun c46 => ?_) (fun c46 => ?_)
          · -- 46 taken
            refine lv_iconst (v := 0) hx hb dX4_assign_53 (by decide) ?_
            refine zcVi (ci := 4) (q0 := 0) (wf := (fun (u : Nat → Nat → Int32) => (wM a cI cZ u))) (List.range 21) ⟨hx, hb, hml, hown, hts⟩ (zwAll 21 (by decide) rfl hP hD hS hA) hK (c_X4_refused_0 l D cI cZ a H.size (M) (0) (by first | rfl | decide)) (cwV 1 hts gX4_assign_X4_refused rfl rfl rfl (by decide +kernel) ⟨Nat.le_of_ble_eq_true rfl, Nat.le_of_ble_eq_true rfl⟩) rfl rfl (by decide) (fun _ => rfl) rfl hl.1 rfl (Nat.le_of_ble_eq_true rfl) dX4_assign_54 ⟨Nat.le_of_ble_eq_true rfl, Nat.le_of_ble_eq_true rfl⟩ (fun r54 u H locs hw hP hD hS => ?_)
            obtain ⟨rfl, rfl⟩ := hw
            have hP : va_P D vwCl (wM a cI cZ (pt (M) 0 0 0)) H := hP
            have hD : va_D A (wM a cI cZ (pt (M) 0 0 0)) := hD
            refine lv_if_eq (tgt := 62) hx hb dX4_assign_57 (by decide) (fun c57 => ?_) (fun c57 => ?_)
            · -- 57 taken
              exact absurd (asgK_0 (by rw [show mR M 8 0 = nI q from hMq]; exact dn ⟨nI_pos (by omega), (nI_ltI (by omega) (by omega)).mpr hrq⟩) (dn c12) (by rw [hcl]; exact fun z => z.elim (fun w => w c46) (fun w => w c37))) hk
            · -- 57 on
              exact absurd c57 (by decide)
          · -- 46 on
            refine lv_iconst (v := 2) hx hb dX4_assign_49 (by decide) ?_
            refine lv_goto (tgt := 54) hx hb dX4_assign_50 (by decide) ?_
            refine zcVi (ci := 4) (q0 := 0) (wf := (fun (u : Nat → Nat → Int32) => (wM a cI cZ u))) (List.range 21) ⟨hx, hb, hml, hown, hts⟩ (zwAll 21 (by decide) rfl hP hD hS hA) hK (c_X4_refused_k l D cI cZ a H.size (M) (2) (by first | rfl | decide)) (cwV 1 hts gX4_assign_X4_refused rfl rfl rfl (by decide +kernel) ⟨Nat.le_of_ble_eq_true rfl, Nat.le_of_ble_eq_true rfl⟩) rfl rfl (by decide) (fun _ => rfl) rfl hl.1 rfl (Nat.le_of_ble_eq_true rfl) dX4_assign_54 ⟨Nat.le_of_ble_eq_true rfl, Nat.le_of_ble_eq_true rfl⟩ (fun r54 u H locs hw hP hD hS => ?_)
            obtain ⟨rfl, rfl⟩ := hw
            have hP : va_P D vwCl (wM a cI cZ (pt (M) 0 0 (2))) H := hP
            have hD : va_D A (wM a cI cZ (pt (M) 0 0 (2))) := hD
            refine lv_if_eq (tgt := 62) hx hb dX4_assign_57 (by decide) (fun c57 => ?_) (fun c57 => ?_)
            · -- 57 taken
              exact absurd c57 (by decide)
            · -- 57 on
              refine lv_iconst (v := 0) hx hb dX4_assign_60 (by decide) ?_
              exact W.iret (v := 0) hx hb hr (fun t ht hW => ⟨⟨0, (pt (M) 0 0 (2)), rfl, ⟨rfl, by rw [asgK_2 (by rw [show mR M 8 0 = nI q from hMq]; exact dn ⟨nI_pos (by omega), (nI_ltI (by omega) (by omega)).mpr hrq⟩) (dn c12) (by rw [hcl]; exact Or.inl c46)]; rfl⟩, by rw [ht]; exact hP, va_K.moved hW.alike hK, hD⟩, hS.F ht⟩) hS.2.2 dX4_assign_61
      · -- 23 on
        exact absurd c23 (by decide)
set_option maxHeartbeats 4000000 in
set_option maxRecDepth 100000 in
theorem c_X4_apply_0 (l : Launch) (D : va_G) (cI cZ : ClassId) (a : Nat → Nat) (sz : Nat) (M : Nat → Nat → Int32) (n : Nat) (q : Nat) (rc : Nat) (hM : M 2 0 = nI n) (hn : n ≤ 40) (hMq : M 15 0 = nI q) (hq : q ≤ 30) (hrq : rc < q) (h5 : M 20 rc = 0) (h0 : ¬ M 17 rc = -1) (hso : ∀ i j, i ≤ j → j < n → M 6 i ≤ M 6 j) (hs0 : ∀ i, i < n → 0 ≤ M 6 i) : Met l yX4_apply wsX4_apply ({ frames := 6, cells := 0, slots := 0, locals := 147 } : Room) (va_Pc [.ref (a 0), .int (nI (rc))] (PreW D cI cZ (wM a cI cZ M) sz)) (va_Qi (fun (r : Int32) (u : Nat → Nat → Int32) => r = moth (pt M 0 0 0) rc n 18 rc ∧ u = moth (pt M 0 0 0) rc n) (fun (u : Nat → Nat → Int32) => PostW D cI cZ (va_A (wM a cI cZ M) sz) (wM a cI cZ u)) (va_A (wM a cI cZ M) sz)) 0 0 (va_A (wM a cI cZ M) sz) := by
  refine Met.ofW (cc := cX4_apply) (maxL := 2) (ret := (some .int)) (by decide) rfl ?_
  intro p e s m args below meth c s₁ BB hml hv
  obtain ⟨rfl, hsz, hP, hK, hD0⟩ := hv
  have hx := BB.exec
  have hb := BB.bytes
  have hr := BB.returns
  have hts := atoms_spec (ws := wsX4_apply) BB.pre
  have hown : s.vm.findClass RX4 = some m.cls := findClass_of_methodNamed BB.named
  have hlocks := BB.notSynchronized
  clear BB
  subst hsz
  have hD := hD0.self (sz := s.heap.size)
  clear hD0
  generalize hAe : va_A (wM a cI cZ M) s.heap.size = A at hD ⊢
  have hA : ∀ q : Nat, s.heap.size ≤ q → A q := fun q h => by rw [← hAe]; exact Or.inr h
  clear hAe
  have hS : va_S A s.heap s.heap [] := va_S.rf
  have hl := lv_entry ([.ref (a 0), .int (nI (rc))]) (n := 2) (Nat.le_of_ble_eq_true rfl)
  rw [lg_entry_eq]
  generalize (lg_sl ([.ref (a 0), .int (nI (rc))]) ++ List.replicate (2 - (lg_sl ([.ref (a 0), .int (nI (rc))])).length) Slot.unset).toArray = ls at hl ⊢
  have hl : lv_has ls 2 [(0, .ref (a 0)), (1, .int (nI (rc)))] := hl
  generalize hHe : s.heap = H at hP
  have hS : va_S A s.heap H [] := by rw [← hHe]; exact va_S.rf
  clear hHe
  generalize hLe : ([] : List Loc) = locs at hS ⊢
  clear hLe
  refine lv_aload_n hx hb dX4_apply_0 rfl (lv_at hl 0 rfl) ?_
  refine lv_aload_n hx hb dX4_apply_1 rfl (lv_at hl 0 rfl) ?_
  refine lv_iload_n hx hb dX4_apply_2 rfl (lv_at hl 1 rfl) ?_
  refine zcVi (ci := 4) (q0 := 0) (wf := (fun (u : Unit) => (wM a cI cZ M))) (List.range 21) ⟨hx, hb, hml, hown, hts⟩ (zwAll 21 (by decide) rfl hP hD hS hA) hK (c_X4_isReceipt l D cI cZ a H.size (M) (nI (rc)) (q) (by first | assumption | omega) (by first | assumption | omega)) (cwV 1 hts gX4_apply_X4_isReceipt rfl rfl rfl (by decide +kernel) ⟨Nat.le_of_ble_eq_true rfl, Nat.le_of_ble_eq_true rfl⟩) rfl rfl (by decide) (fun _ => rfl) rfl hl.1 rfl (Nat.le_of_ble_eq_true rfl) dX4_apply_3 ⟨Nat.le_of_ble_eq_true rfl, Nat.le_of_ble_eq_true rfl⟩ (fun r3 u H locs hw hP hD hS => ?_)
  subst hw
  refine lv_if_ne (tgt := 13) hx hb dX4_apply_6 (by decide) (fun c6 => ?_) (fun c6 => ?_)
  · -- 6 taken
    have c6 := b2_1 c6
    refine lv_aload_n hx hb dX4_apply_13 rfl (lv_at hl 0 rfl) ?_
    refine va_get (D := D) (ci := 4) (v := .ref (a 14)) (C := RX4) (T := TX4) (N := 24) hx hb hts (fun w h => List.mem_cons_of_mem _ (List.mem_append_right _ h)) hown hK hP 0 rfl rfl 17 (by decide) (hts (.fieldLink RX4 49 "CashAllocatorModel" "payers" "[I") (by decide +kernel)) (fun _ h9 => h9) rfl dX4_apply_14 ?_
    refine lv_iload_n hx hb dX4_apply_17 rfl (lv_at hl 1 rfl) ?_
    refine zald hx hb hK hP 14 (n := 30) (f := (M 17)) rfl (rc) rfl (by omega) (by decide) dX4_apply_18 ?_
    refine lv_iconst (v := (-1)) hx hb dX4_apply_19 (by decide) ?_
    refine lv_icmp_eq (tgt := 32) hx hb dX4_apply_20 (by decide) (fun c20 => ?_) (fun c20 => ?_)
    · -- 20 taken
      exact absurd c20 h0
    · -- 20 on
      refine lv_aload_n hx hb dX4_apply_23 rfl (lv_at hl 0 rfl) ?_
      refine va_get (D := D) (ci := 4) (v := .ref (a 17)) (C := RX4) (T := TX4) (N := 24) hx hb hts (fun w h => List.mem_cons_of_mem _ (List.mem_append_right _ h)) hown hK hP 0 rfl rfl 20 (by decide) (hts (.fieldLink RX4 58 "CashAllocatorModel" "isBounced" "[Z") (by decide +kernel)) (fun _ h9 => h9) rfl dX4_apply_24 ?_
      refine lv_iload_n hx hb dX4_apply_27 rfl (lv_at hl 1 rfl) ?_
      refine zbld hx hb hK hP 17 (n := 30) (f := (M 20)) rfl (rc) rfl (by omega) (by decide) dX4_apply_28 ?_
      refine lv_if_eq (tgt := 36) hx hb dX4_apply_29 (by decide) (fun c29 => ?_) (fun c29 => ?_)
      · -- 29 taken
        refine lv_iconst (v := 0) hx hb dX4_apply_36 (by decide) ?_
        refine zcVi (ci := 4) (q0 := 0) (wf := (fun (u : Nat → Nat → Int32) => (wM a cI cZ u))) (List.range 21) ⟨hx, hb, hml, hown, hts⟩ (zwAll 21 (by decide) rfl hP hD hS hA) hK (c_X4_refused_0 l D cI cZ a H.size (M) (0) (by first | rfl | decide)) (cwV 1 hts gX4_apply_X4_refused rfl rfl rfl (by decide +kernel) ⟨Nat.le_of_ble_eq_true rfl, Nat.le_of_ble_eq_true rfl⟩) rfl rfl (by decide) (fun _ => rfl) rfl hl.1 rfl (Nat.le_of_ble_eq_true rfl) dX4_apply_37 ⟨Nat.le_of_ble_eq_true rfl, Nat.le_of_ble_eq_true rfl⟩ (fun r37 u H locs hw hP hD hS => ?_)
        obtain ⟨rfl, rfl⟩ := hw
        have hP : va_P D vwCl (wM a cI cZ (pt (M) 0 0 0)) H := hP
        have hD : va_D A (wM a cI cZ (pt (M) 0 0 0)) := hD
        refine lv_if_eq (tgt := 45) hx hb dX4_apply_40 (by decide) (fun c40 => ?_) (fun c40 => ?_)
        · -- 40 taken
          refine lv_aload_n hx hb dX4_apply_45 rfl (lv_at hl 0 rfl) ?_
          refine lv_iload_n hx hb dX4_apply_46 rfl (lv_at hl 1 rfl) ?_
          refine zcVv (ci := 4) (q0 := 0) (wf := (fun (u : Nat → Nat → Int32) => (wM a cI cZ u))) (List.range 21) ⟨hx, hb, hml, hown, hts⟩ (zwAll 21 (by decide) rfl hP hD hS hA) hK (c_X4_payOthers l D cI cZ a H.size ((pt (M) 0 0 0)) (rc) (n) (by first | assumption | omega) hM (by first | assumption | omega) hso hs0) (cwV 1 hts gX4_apply_X4_payOthers rfl rfl rfl (by decide +kernel) ⟨Nat.le_of_ble_eq_true rfl, Nat.le_of_ble_eq_true rfl⟩) rfl rfl (by decide) (fun _ => rfl) rfl hl.1 rfl (Nat.le_of_ble_eq_true rfl) dX4_apply_47 ⟨Nat.le_of_ble_eq_true rfl, Nat.le_of_ble_eq_true rfl⟩ (fun u H locs hw hP hD hS => ?_)
          subst hw
          have hP : va_P D vwCl (wM a cI cZ (moth ((pt (M) 0 0 0)) (rc) n)) H := hP
          have hD : va_D A (wM a cI cZ (moth ((pt (M) 0 0 0)) (rc) n)) := hD
          refine lv_aload_n hx hb dX4_apply_50 rfl (lv_at hl 0 rfl) ?_
          refine va_get (D := D) (ci := 4) (v := .ref (a 15)) (C := RX4) (T := TX4) (N := 24) hx hb hts (fun w h => List.mem_cons_of_mem _ (List.mem_append_right _ h)) hown hK hP 0 rfl rfl 18 (by decide) (hts (.fieldLink RX4 52 "CashAllocatorModel" "left" "[I") (by decide +kernel)) (fun _ h9 => h9) rfl dX4_apply_51 ?_
          refine lv_iload_n hx hb dX4_apply_54 rfl (lv_at hl 1 rfl) ?_
          refine zald hx hb hK hP 15 (n := 30) (f := ((moth ((pt (M) 0 0 0)) (rc) n) 18)) rfl (rc) rfl (by omega) (by decide) dX4_apply_55 ?_
          exact W.iret (v := (moth ((pt (M) 0 0 0)) (rc) n) 18 (rc)) hx hb hr (fun t ht hW => ⟨⟨(moth ((pt (M) 0 0 0)) (rc) n) 18 (rc), (moth ((pt (M) 0 0 0)) (rc) n), rfl, ⟨rfl, rfl⟩, by rw [ht]; exact hP, va_K.moved hW.alike hK, hD⟩, hS.F ht⟩) hS.2.2 dX4_apply_56
        · -- 40 on
          exact absurd c40 (by decide)
      · -- 29 on
        exact absurd h5 c29
  · -- 6 on
    have c6 := b2_0 c6
    exact absurd ⟨nI_pos (by omega), (nI_ltI (by omega) (by omega)).mpr hrq⟩ c6
set_option maxHeartbeats 4000000 in
set_option maxRecDepth 100000 in
theorem c_X4_apply_k (l : Launch) (D : va_G) (cI cZ : ClassId) (a : Nat → Nat) (sz : Nat) (M : Nat → Nat → Int32) (q : Nat) (vx : Int32) (hMq : M 15 0 = nI q) (hq : q ≤ 30) (hk : ¬ aplK (mR M) vx = 0) : Met l yX4_apply wsX4_apply ({ frames := 6, cells := 0, slots := 0, locals := 147 } : Room) (va_Pc [.ref (a 0), .int (vx)] (PreW D cI cZ (wM a cI cZ M) sz)) (va_Qi (fun (r : Int32) (u : Nat → Nat → Int32) => r = 0 ∧ u = pt M 0 0 (nI (aplK (mR M) vx))) (fun (u : Nat → Nat → Int32) => PostW D cI cZ (va_A (wM a cI cZ M) sz) (wM a cI cZ u)) (va_A (wM a cI cZ M) sz)) 0 0 (va_A (wM a cI cZ M) sz) := by
  refine Met.ofW (cc := cX4_apply) (maxL := 2) (ret := (some .int)) (by decide) rfl ?_
  intro p e s m args below meth c s₁ BB hml hv
  obtain ⟨rfl, hsz, hP, hK, hD0⟩ := hv
  have hx := BB.exec
  have hb := BB.bytes
  have hr := BB.returns
  have hts := atoms_spec (ws := wsX4_apply) BB.pre
  have hown : s.vm.findClass RX4 = some m.cls := findClass_of_methodNamed BB.named
  have hlocks := BB.notSynchronized
  clear BB
  subst hsz
  have hD := hD0.self (sz := s.heap.size)
  clear hD0
  generalize hAe : va_A (wM a cI cZ M) s.heap.size = A at hD ⊢
  have hA : ∀ q : Nat, s.heap.size ≤ q → A q := fun q h => by rw [← hAe]; exact Or.inr h
  clear hAe
  have hS : va_S A s.heap s.heap [] := va_S.rf
  have hl := lv_entry ([.ref (a 0), .int (vx)]) (n := 2) (Nat.le_of_ble_eq_true rfl)
  rw [lg_entry_eq]
  generalize (lg_sl ([.ref (a 0), .int (vx)]) ++ List.replicate (2 - (lg_sl ([.ref (a 0), .int (vx)])).length) Slot.unset).toArray = ls at hl ⊢
  have hl : lv_has ls 2 [(0, .ref (a 0)), (1, .int (vx))] := hl
  generalize hHe : s.heap = H at hP
  have hS : va_S A s.heap H [] := by rw [← hHe]; exact va_S.rf
  clear hHe
  generalize hLe : ([] : List Loc) = locs at hS ⊢
  clear hLe
  refine lv_aload_n hx hb dX4_apply_0 rfl (lv_at hl 0 rfl) ?_
  refine lv_aload_n hx hb dX4_apply_1 rfl (lv_at hl 0 rfl) ?_
  refine lv_iload_n hx hb dX4_apply_2 rfl (lv_at hl 1 rfl) ?_
  refine zcVi (ci := 4) (q0 := 0) (wf := (fun (u : Unit) => (wM a cI cZ M))) (List.range 21) ⟨hx, hb, hml, hown, hts⟩ (zwAll 21 (by decide) rfl hP hD hS hA) hK (c_X4_isReceipt l D cI cZ a H.size (M) (vx) (q) (by first | assumption | omega) (by first | assumption | omega)) (cwV 1 hts gX4_apply_X4_isReceipt rfl rfl rfl (by decide +kernel) ⟨Nat.le_of_ble_eq_true rfl, Nat.le_of_ble_eq_true rfl⟩) rfl rfl (by decide) (fun _ => rfl) rfl hl.1 rfl (Nat.le_of_ble_eq_true rfl) dX4_apply_3 ⟨Nat.le_of_ble_eq_true rfl, Nat.le_of_ble_eq_true rfl⟩ (fun r3 u H locs hw hP hD hS => ?_)
  subst hw
  refine lv_if_ne (tgt := 13) hx hb dX4_apply_6 (by decide) (fun c6 => ?_) (fun c6 => ?_)
  · -- 6 taken
    have c6 := b2_1 c6
    obtain ⟨rc, hrq, ej⟩ := ix_of (n := q) (by omega) c6.1 c6.2
    subst ej
    have hcl : (nI rc).toNatClampNeg = rc := nI_clamp (by omega)
    refine lv_aload_n hx hb dX4_apply_13 rfl (lv_at hl 0 rfl) ?_
    refine va_get (D := D) (ci := 4) (v := .ref (a 14)) (C := RX4) (T := TX4) (N := 24) hx hb hts (fun w h => List.mem_cons_of_mem _ (List.mem_append_right _ h)) hown hK hP 0 rfl rfl 17 (by decide) (hts (.fieldLink RX4 49 "CashAllocatorModel" "payers" "[I") (by decide +kernel)) (fun _ h9 => h9) rfl dX4_apply_14 ?_
    refine lv_iload_n hx hb dX4_apply_17 rfl (lv_at hl 1 rfl) ?_
    refine zald hx hb hK hP 14 (n := 30) (f := (M 17)) rfl (rc) rfl (by omega) (by decide) dX4_apply_18 ?_
    refine lv_iconst (v := (-1)) hx hb dX4_apply_19 (by decide) ?_
    refine lv_icmp_eq (tgt := 32) hx hb dX4_apply_20 (by decide) (fun c20 => ?_) (fun c20 => ?_)
    · -- 20 taken
      refine lv_iconst (v := 2) hx hb dX4_apply_32 (by decide) ?_
      refine lv_goto (tgt := 37) hx hb dX4_apply_33 (by decide) ?_
      refine zcVi (ci := 4) (q0 := 0) (wf := (fun (u : Nat → Nat → Int32) => (wM a cI cZ u))) (List.range 21) ⟨hx, hb, hml, hown, hts⟩ (zwAll 21 (by decide) rfl hP hD hS hA) hK (c_X4_refused_k l D cI cZ a H.size (M) (2) (by first | rfl | decide)) (cwV 1 hts gX4_apply_X4_refused rfl rfl rfl (by decide +kernel) ⟨Nat.le_of_ble_eq_true rfl, Nat.le_of_ble_eq_true rfl⟩) rfl rfl (by decide) (fun _ => rfl) rfl hl.1 rfl (Nat.le_of_ble_eq_true rfl) dX4_apply_37 ⟨Nat.le_of_ble_eq_true rfl, Nat.le_of_ble_eq_true rfl⟩ (fun r37 u H locs hw hP hD hS => ?_)
      obtain ⟨rfl, rfl⟩ := hw
      have hP : va_P D vwCl (wM a cI cZ (pt (M) 0 0 (2))) H := hP
      have hD : va_D A (wM a cI cZ (pt (M) 0 0 (2))) := hD
      refine lv_if_eq (tgt := 45) hx hb dX4_apply_40 (by decide) (fun c40 => ?_) (fun c40 => ?_)
      · -- 40 taken
        exact absurd c40 (by decide)
      · -- 40 on
        refine lv_iconst (v := 0) hx hb dX4_apply_43 (by decide) ?_
        exact W.iret (v := 0) hx hb hr (fun t ht hW => ⟨⟨0, (pt (M) 0 0 (2)), rfl, ⟨rfl, by rw [aplK_2 (by rw [show mR M 8 0 = nI q from hMq]; exact dn ⟨nI_pos (by omega), (nI_ltI (by omega) (by omega)).mpr hrq⟩) (by rw [hcl]; exact Or.inr c20)]; rfl⟩, by rw [ht]; exact hP, va_K.moved hW.alike hK, hD⟩, hS.F ht⟩) hS.2.2 dX4_apply_44
    · -- 20 on
      refine lv_aload_n hx hb dX4_apply_23 rfl (lv_at hl 0 rfl) ?_
      refine va_get (D := D) (ci := 4) (v := .ref (a 17)) (C := RX4) (T := TX4) (N := 24) hx hb hts (fun w h => List.mem_cons_of_mem _ (List.mem_append_right _ h)) hown hK hP 0 rfl rfl 20 (by decide) (hts (.fieldLink RX4 58 "CashAllocatorModel" "isBounced" "[Z") (by decide +kernel)) (fun _ h9 => h9) rfl dX4_apply_24 ?_
      refine lv_iload_n hx hb dX4_apply_27 rfl (lv_at hl 1 rfl) ?_
      refine zbld hx hb hK hP 17 (n := 30) (f := (M 20)) rfl (rc) rfl (by omega) (by decide) dX4_apply_28 ?_
      refine lv_if_eq (tgt := 36) hx hb dX4_apply_29 (by decide) (fun c29 => ?_) (fun c29 => ?_)
      · -- 29 taken
        refine lv_iconst (v := 0) hx hb dX4_apply_36 (by decide) ?_
        refine zcVi (ci := 4) (q0 := 0) (wf := (fun (u : Nat → Nat → Int32) => (wM a cI cZ u))) (List.range 21) ⟨hx, hb, hml, hown, hts⟩ (zwAll 21 (by decide) rfl hP hD hS hA) hK (c_X4_refused_0 l D cI cZ a H.size (M) (0) (by first | rfl | decide)) (cwV 1 hts gX4_apply_X4_refused rfl rfl rfl (by decide +kernel) ⟨Nat.le_of_ble_eq_true rfl, Nat.le_of_ble_eq_true rfl⟩) rfl rfl (by decide) (fun _ => rfl) rfl hl.1 rfl (Nat.le_of_ble_eq_true rfl) dX4_apply_37 ⟨Nat.le_of_ble_eq_true rfl, Nat.le_of_ble_eq_true rfl⟩ (fun r37 u H locs hw hP hD hS => ?_)
        obtain ⟨rfl, rfl⟩ := hw
        have hP : va_P D vwCl (wM a cI cZ (pt (M) 0 0 0)) H := hP
        have hD : va_D A (wM a cI cZ (pt (M) 0 0 0)) := hD
        refine lv_if_eq (tgt := 45) hx hb dX4_apply_40 (by decide) (fun c40 => ?_) (fun c40 => ?_)
        · -- 40 taken
          exact absurd (aplK_0 (by rw [show mR M 8 0 = nI q from hMq]; exact dn ⟨nI_pos (by omega), (nI_ltI (by omega) (by omega)).mpr hrq⟩) (by rw [hcl]; exact fun z => z.elim (fun w => w c29) c20)) hk
        · -- 40 on
          exact absurd c40 (by decide)
      · -- 29 on
        refine lv_iconst (v := 2) hx hb dX4_apply_32 (by decide) ?_
        refine lv_goto (tgt := 37) hx hb dX4_apply_33 (by decide) ?_
        refine zcVi (ci := 4) (q0 := 0) (wf := (fun (u : Nat → Nat → Int32) => (wM a cI cZ u))) (List.range 21) ⟨hx, hb, hml, hown, hts⟩ (zwAll 21 (by decide) rfl hP hD hS hA) hK (c_X4_refused_k l D cI cZ a H.size (M) (2) (by first | rfl | decide)) (cwV 1 hts gX4_apply_X4_refused rfl rfl rfl (by decide +kernel) ⟨Nat.le_of_ble_eq_true rfl, Nat.le_of_ble_eq_true rfl⟩) rfl rfl (by decide) (fun _ => rfl) rfl hl.1 rfl (Nat.le_of_ble_eq_true rfl) dX4_apply_37 ⟨Nat.le_of_ble_eq_true rfl, Nat.le_of_ble_eq_true rfl⟩ (fun r37 u H locs hw hP hD hS => ?_)
        obtain ⟨rfl, rfl⟩ := hw
        have hP : va_P D vwCl (wM a cI cZ (pt (M) 0 0 (2))) H := hP
        have hD : va_D A (wM a cI cZ (pt (M) 0 0 (2))) := hD
        refine lv_if_eq (tgt := 45) hx hb dX4_apply_40 (by decide) (fun c40 => ?_) (fun c40 => ?_)
        · -- 40 taken
          exact absurd c40 (by decide)
        · -- 40 on
          refine lv_iconst (v := 0) hx hb dX4_apply_43 (by decide) ?_
          exact W.iret (v := 0) hx hb hr (fun t ht hW => ⟨⟨0, (pt (M) 0 0 (2)), rfl, ⟨rfl, by rw [aplK_2 (by rw [show mR M 8 0 = nI q from hMq]; exact dn ⟨nI_pos (by omega), (nI_ltI (by omega) (by omega)).mpr hrq⟩) (by rw [hcl]; exact Or.inl c29)]; rfl⟩, by rw [ht]; exact hP, va_K.moved hW.alike hK, hD⟩, hS.F ht⟩) hS.2.2 dX4_apply_44
  · -- 6 on
    have c6 := b2_0 c6
    refine lv_iconst (v := 1) hx hb dX4_apply_9 (by decide) ?_
    refine lv_goto (tgt := 37) hx hb dX4_apply_10 (by decide) ?_
    refine zcVi (ci := 4) (q0 := 0) (wf := (fun (u : Nat → Nat → Int32) => (wM a cI cZ u))) (List.range 21) ⟨hx, hb, hml, hown, hts⟩ (zwAll 21 (by decide) rfl hP hD hS hA) hK (c_X4_refused_k l D cI cZ a H.size (M) (1) (by first | rfl | decide)) (cwV 1 hts gX4_apply_X4_refused rfl rfl rfl (by decide +kernel) ⟨Nat.le_of_ble_eq_true rfl, Nat.le_of_ble_eq_true rfl⟩) rfl rfl (by decide) (fun _ => rfl) rfl hl.1 rfl (Nat.le_of_ble_eq_true rfl) dX4_apply_37 ⟨Nat.le_of_ble_eq_true rfl, Nat.le_of_ble_eq_true rfl⟩ (fun r37 u H locs hw hP hD hS => ?_)
    obtain ⟨rfl, rfl⟩ := hw
    have hP : va_P D vwCl (wM a cI cZ (pt (M) 0 0 (1))) H := hP
    have hD : va_D A (wM a cI cZ (pt (M) 0 0 (1))) := hD
    refine lv_if_eq (tgt := 45) hx hb dX4_apply_40 (by decide) (fun c40 => ?_) (fun c40 => ?_)
    · -- 40 taken
      exact absurd c40 (by decide)
    · -- 40 on
      refine lv_iconst (v := 0) hx hb dX4_apply_43 (by decide) ?_
      exact W.iret (v := 0) hx hb hr (fun t ht hW => ⟨⟨0, (pt (M) 0 0 (1)), rfl, ⟨rfl, by rw [show aplK (mR M) vx = 1 from if_pos (by rw [show mR M 8 0 = nI q from hMq]; exact dp c6)]; rfl⟩, by rw [ht]; exact hP, va_K.moved hW.alike hK, hD⟩, hS.F ht⟩) hS.2.2 dX4_apply_44
set_option maxHeartbeats 4000000 in
set_option maxRecDepth 100000 in
theorem c_X4_payBack_0 (l : Launch) (D : va_G) (cI cZ : ClassId) (a : Nat → Nat) (sz : Nat) (M : Nat → Nat → Int32) (q : Nat) (rc : Nat) (hMq : M 15 0 = nI q) (hq : q ≤ 30) (hrq : rc < q) (h5 : M 20 rc = 0) (h3 : ¬ M 18 rc = 0) : Met l yX4_payBack wsX4_payBack ({ frames := 2, cells := 0, slots := 0, locals := 43 } : Room) (va_Pc [.ref (a 0), .int (nI (rc))] (PreW D cI cZ (wM a cI cZ M) sz)) (va_Qi (fun (r : Int32) (u : Nat → Nat → Int32) => r = M 18 rc ∧ u = mpbk M rc) (fun (u : Nat → Nat → Int32) => PostW D cI cZ (va_A (wM a cI cZ M) sz) (wM a cI cZ u)) (va_A (wM a cI cZ M) sz)) 0 0 (va_A (wM a cI cZ M) sz) := by
  refine Met.ofW (cc := cX4_payBack) (maxL := 3) (ret := (some .int)) (by decide) rfl ?_
  intro p e s m args below meth c s₁ BB hml hv
  obtain ⟨rfl, hsz, hP, hK, hD0⟩ := hv
  have hx := BB.exec
  have hb := BB.bytes
  have hr := BB.returns
  have hts := atoms_spec (ws := wsX4_payBack) BB.pre
  have hown : s.vm.findClass RX4 = some m.cls := findClass_of_methodNamed BB.named
  have hlocks := BB.notSynchronized
  clear BB
  subst hsz
  have hD := hD0.self (sz := s.heap.size)
  clear hD0
  generalize hAe : va_A (wM a cI cZ M) s.heap.size = A at hD ⊢
  have hA : ∀ q : Nat, s.heap.size ≤ q → A q := fun q h => by rw [← hAe]; exact Or.inr h
  clear hAe
  have hS : va_S A s.heap s.heap [] := va_S.rf
  have hl := lv_entry ([.ref (a 0), .int (nI (rc))]) (n := 3) (Nat.le_of_ble_eq_true rfl)
  rw [lg_entry_eq]
  generalize (lg_sl ([.ref (a 0), .int (nI (rc))]) ++ List.replicate (3 - (lg_sl ([.ref (a 0), .int (nI (rc))])).length) Slot.unset).toArray = ls at hl ⊢
  have hl : lv_has ls 3 [(0, .ref (a 0)), (1, .int (nI (rc)))] := hl
  generalize hHe : s.heap = H at hP
  have hS : va_S A s.heap H [] := by rw [← hHe]; exact va_S.rf
  clear hHe
  generalize hLe : ([] : List Loc) = locs at hS ⊢
  clear hLe
  refine lv_aload_n hx hb dX4_payBack_0 rfl (lv_at hl 0 rfl) ?_
  refine lv_aload_n hx hb dX4_payBack_1 rfl (lv_at hl 0 rfl) ?_
  refine lv_iload_n hx hb dX4_payBack_2 rfl (lv_at hl 1 rfl) ?_
  refine zcVi (ci := 4) (q0 := 0) (wf := (fun (u : Unit) => (wM a cI cZ M))) (List.range 21) ⟨hx, hb, hml, hown, hts⟩ (zwAll 21 (by decide) rfl hP hD hS hA) hK (c_X4_isReceipt l D cI cZ a H.size (M) (nI (rc)) (q) (by first | assumption | omega) (by first | assumption | omega)) (cwV 1 hts gX4_payBack_X4_isReceipt rfl rfl rfl (by decide +kernel) ⟨Nat.le_of_ble_eq_true rfl, Nat.le_of_ble_eq_true rfl⟩) rfl rfl (by decide) (fun _ => rfl) rfl hl.1 rfl (Nat.le_of_ble_eq_true rfl) dX4_payBack_3 ⟨Nat.le_of_ble_eq_true rfl, Nat.le_of_ble_eq_true rfl⟩ (fun r3 u H locs hw hP hD hS => ?_)
  subst hw
  refine lv_if_ne (tgt := 13) hx hb dX4_payBack_6 (by decide) (fun c6 => ?_) (fun c6 => ?_)
  · -- 6 taken
    have c6 := b2_1 c6
    refine lv_aload_n hx hb dX4_payBack_13 rfl (lv_at hl 0 rfl) ?_
    refine va_get (D := D) (ci := 4) (v := .ref (a 17)) (C := RX4) (T := TX4) (N := 24) hx hb hts (fun w h => List.mem_cons_of_mem _ (List.mem_append_right _ h)) hown hK hP 0 rfl rfl 20 (by decide) (hts (.fieldLink RX4 58 "CashAllocatorModel" "isBounced" "[Z") (by decide +kernel)) (fun _ h9 => h9) rfl dX4_payBack_14 ?_
    refine lv_iload_n hx hb dX4_payBack_17 rfl (lv_at hl 1 rfl) ?_
    refine zbld hx hb hK hP 17 (n := 30) (f := (M 20)) rfl (rc) rfl (by omega) (by decide) dX4_payBack_18 ?_
    refine lv_if_ne (tgt := 31) hx hb dX4_payBack_19 (by decide) (fun c19 => ?_) (fun c19 => ?_)
    · -- 19 taken
      exact absurd h5 c19
    · -- 19 on
      refine lv_aload_n hx hb dX4_payBack_22 rfl (lv_at hl 0 rfl) ?_
      refine va_get (D := D) (ci := 4) (v := .ref (a 15)) (C := RX4) (T := TX4) (N := 24) hx hb hts (fun w h => List.mem_cons_of_mem _ (List.mem_append_right _ h)) hown hK hP 0 rfl rfl 18 (by decide) (hts (.fieldLink RX4 52 "CashAllocatorModel" "left" "[I") (by decide +kernel)) (fun _ h9 => h9) rfl dX4_payBack_23 ?_
      refine lv_iload_n hx hb dX4_payBack_26 rfl (lv_at hl 1 rfl) ?_
      refine zald hx hb hK hP 15 (n := 30) (f := (M 18)) rfl (rc) rfl (by omega) (by decide) dX4_payBack_27 ?_
      refine lv_if_ne (tgt := 35) hx hb dX4_payBack_28 (by decide) (fun c28 => ?_) (fun c28 => ?_)
      · -- 28 taken
        refine lv_iconst (v := 0) hx hb dX4_payBack_35 (by decide) ?_
        refine zcVi (ci := 4) (q0 := 0) (wf := (fun (u : Nat → Nat → Int32) => (wM a cI cZ u))) (List.range 21) ⟨hx, hb, hml, hown, hts⟩ (zwAll 21 (by decide) rfl hP hD hS hA) hK (c_X4_refused_0 l D cI cZ a H.size (M) (0) (by first | rfl | decide)) (cwV 1 hts gX4_payBack_X4_refused rfl rfl rfl (by decide +kernel) ⟨Nat.le_of_ble_eq_true rfl, Nat.le_of_ble_eq_true rfl⟩) rfl rfl (by decide) (fun _ => rfl) rfl hl.1 rfl (Nat.le_of_ble_eq_true rfl) dX4_payBack_36 ⟨Nat.le_of_ble_eq_true rfl, Nat.le_of_ble_eq_true rfl⟩ (fun r36 u H locs hw hP hD hS => ?_)
        obtain ⟨rfl, rfl⟩ := hw
        have hP : va_P D vwCl (wM a cI cZ (pt (M) 0 0 0)) H := hP
        have hD : va_D A (wM a cI cZ (pt (M) 0 0 0)) := hD
        refine lv_if_eq (tgt := 44) hx hb dX4_payBack_39 (by decide) (fun c39 => ?_) (fun c39 => ?_)
        · -- 39 taken
          refine lv_aload_n hx hb dX4_payBack_44 rfl (lv_at hl 0 rfl) ?_
          refine va_get (D := D) (ci := 4) (v := .ref (a 15)) (C := RX4) (T := TX4) (N := 24) hx hb hts (fun w h => List.mem_cons_of_mem _ (List.mem_append_right _ h)) hown hK hP 0 rfl rfl 18 (by decide) (hts (.fieldLink RX4 52 "CashAllocatorModel" "left" "[I") (by decide +kernel)) (fun _ h9 => h9) rfl dX4_payBack_45 ?_
          refine lv_iload_n hx hb dX4_payBack_48 rfl (lv_at hl 1 rfl) ?_
          refine zald hx hb hK hP 15 (n := 30) (f := ((pt (M) 0 0 0) 18)) rfl (rc) rfl (by omega) (by decide) dX4_payBack_49 ?_
          refine lv_istore_n (lv' := [(2, .int ((pt (M) 0 0 0) 18 (rc))), (0, .ref (a 0)), (1, .int (nI (rc)))]) hx hb dX4_payBack_50 rfl hl (by decide) rfl (fun ls hl => ?_)
          refine lv_aload_n hx hb dX4_payBack_51 rfl (lv_at hl 1 rfl) ?_
          refine va_get (D := D) (ci := 4) (v := .ref (a 16)) (C := RX4) (T := TX4) (N := 24) hx hb hts (fun w h => List.mem_cons_of_mem _ (List.mem_append_right _ h)) hown hK hP 0 rfl rfl 19 (by decide) (hts (.fieldLink RX4 55 "CashAllocatorModel" "backs" "[I") (by decide +kernel)) (fun _ h9 => h9) rfl dX4_payBack_52 ?_
          refine lv_iload_n hx hb dX4_payBack_55 rfl (lv_at hl 2 rfl) ?_
          refine lv_dup2_11 hx hb dX4_payBack_56 rfl rfl ?_
          refine zald hx hb hK hP 16 (n := 30) (f := ((pt (M) 0 0 0) 19)) rfl (rc) rfl (by omega) (by decide) dX4_payBack_57 ?_
          refine lv_iload_n hx hb dX4_payBack_58 rfl (lv_at hl 0 rfl) ?_
          refine lv_iadd hx hb dX4_payBack_59 ?_
          refine zast hx hb hK hP hD hS 16 (n := 30) (f := ((pt (M) 0 0 0) 19)) rfl (rc) rfl (by omega) (by decide) (wM a cI cZ (pt (pt (M) 0 0 0) 19 (rc) (((pt (M) 0 0 0) 19 (rc)) + ((pt (M) 0 0 0) 18 (rc))))) rfl dX4_payBack_60 (fun H locs hP hD hS => ?_)
          refine lv_aload_n hx hb dX4_payBack_61 rfl (lv_at hl 1 rfl) ?_
          refine va_get (D := D) (ci := 4) (v := .ref (a 15)) (C := RX4) (T := TX4) (N := 24) hx hb hts (fun w h => List.mem_cons_of_mem _ (List.mem_append_right _ h)) hown hK hP 0 rfl rfl 18 (by decide) (hts (.fieldLink RX4 52 "CashAllocatorModel" "left" "[I") (by decide +kernel)) (fun _ h9 => h9) rfl dX4_payBack_62 ?_
          refine lv_iload_n hx hb dX4_payBack_65 rfl (lv_at hl 2 rfl) ?_
          refine lv_iconst (v := 0) hx hb dX4_payBack_66 (by decide) ?_
          refine zast hx hb hK hP hD hS 15 (n := 30) (f := ((pt (M) 0 0 0) 18)) rfl (rc) rfl (by omega) (by decide) (wM a cI cZ (pt (pt (pt (M) 0 0 0) 19 (rc) (((pt (M) 0 0 0) 19 (rc)) + ((pt (M) 0 0 0) 18 (rc)))) 18 (rc) (0))) rfl dX4_payBack_67 (fun H locs hP hD hS => ?_)
          refine lv_iload_n hx hb dX4_payBack_68 rfl (lv_at hl 0 rfl) ?_
          exact W.iret (v := (pt (M) 0 0 0) 18 (rc)) hx hb hr (fun t ht hW => ⟨⟨(pt (M) 0 0 0) 18 (rc), (pt (pt (pt (M) 0 0 0) 19 (rc) (((pt (M) 0 0 0) 19 (rc)) + ((pt (M) 0 0 0) 18 (rc)))) 18 (rc) (0)), rfl, ⟨rfl, rfl⟩, by rw [ht]; exact hP, va_K.moved hW.alike hK, hD⟩, hS.F ht⟩) hS.2.2 dX4_payBack_69
        · -- 39 on
          exact absurd c39 (by decide)
      · -- 28 on
        exact absurd c28 h3
  · -- 6 on
    have c6 := b2_0 c6
    exact absurd ⟨nI_pos (by omega), (nI_ltI (by omega) (by omega)).mpr hrq⟩ c6
set_option maxHeartbeats 4000000 in
set_option maxRecDepth 100000 in
theorem c_X4_payBack_k (l : Launch) (D : va_G) (cI cZ : ClassId) (a : Nat → Nat) (sz : Nat) (M : Nat → Nat → Int32) (q : Nat) (vx : Int32) (hMq : M 15 0 = nI q) (hq : q ≤ 30) (hk : ¬ pbkK (mR M) vx = 0) : Met l yX4_payBack wsX4_payBack ({ frames := 2, cells := 0, slots := 0, locals := 43 } : Room) (va_Pc [.ref (a 0), .int (vx)] (PreW D cI cZ (wM a cI cZ M) sz)) (va_Qi (fun (r : Int32) (u : Nat → Nat → Int32) => r = 0 ∧ u = pt M 0 0 (nI (pbkK (mR M) vx))) (fun (u : Nat → Nat → Int32) => PostW D cI cZ (va_A (wM a cI cZ M) sz) (wM a cI cZ u)) (va_A (wM a cI cZ M) sz)) 0 0 (va_A (wM a cI cZ M) sz) := by
  refine Met.ofW (cc := cX4_payBack) (maxL := 3) (ret := (some .int)) (by decide) rfl ?_
  intro p e s m args below meth c s₁ BB hml hv
  obtain ⟨rfl, hsz, hP, hK, hD0⟩ := hv
  have hx := BB.exec
  have hb := BB.bytes
  have hr := BB.returns
  have hts := atoms_spec (ws := wsX4_payBack) BB.pre
  have hown : s.vm.findClass RX4 = some m.cls := findClass_of_methodNamed BB.named
  have hlocks := BB.notSynchronized
  clear BB
  subst hsz
  have hD := hD0.self (sz := s.heap.size)
  clear hD0
  generalize hAe : va_A (wM a cI cZ M) s.heap.size = A at hD ⊢
  have hA : ∀ q : Nat, s.heap.size ≤ q → A q := fun q h => by rw [← hAe]; exact Or.inr h
  clear hAe
  have hS : va_S A s.heap s.heap [] := va_S.rf
  have hl := lv_entry ([.ref (a 0), .int (vx)]) (n := 3) (Nat.le_of_ble_eq_true rfl)
  rw [lg_entry_eq]
  generalize (lg_sl ([.ref (a 0), .int (vx)]) ++ List.replicate (3 - (lg_sl ([.ref (a 0), .int (vx)])).length) Slot.unset).toArray = ls at hl ⊢
  have hl : lv_has ls 3 [(0, .ref (a 0)), (1, .int (vx))] := hl
  generalize hHe : s.heap = H at hP
  have hS : va_S A s.heap H [] := by rw [← hHe]; exact va_S.rf
  clear hHe
  generalize hLe : ([] : List Loc) = locs at hS ⊢
  clear hLe
  refine lv_aload_n hx hb dX4_payBack_0 rfl (lv_at hl 0 rfl) ?_
  refine lv_aload_n hx hb dX4_payBack_1 rfl (lv_at hl 0 rfl) ?_
  refine lv_iload_n hx hb dX4_payBack_2 rfl (lv_at hl 1 rfl) ?_
  refine zcVi (ci := 4) (q0 := 0) (wf := (fun (u : Unit) => (wM a cI cZ M))) (List.range 21) ⟨hx, hb, hml, hown, hts⟩ (zwAll 21 (by decide) rfl hP hD hS hA) hK (c_X4_isReceipt l D cI cZ a H.size (M) (vx) (q) (by first | assumption | omega) (by first | assumption | omega)) (cwV 1 hts gX4_payBack_X4_isReceipt rfl rfl rfl (by decide +kernel) ⟨Nat.le_of_ble_eq_true rfl, Nat.le_of_ble_eq_true rfl⟩) rfl rfl (by decide) (fun _ => rfl) rfl hl.1 rfl (Nat.le_of_ble_eq_true rfl) dX4_payBack_3 ⟨Nat.le_of_ble_eq_true rfl, Nat.le_of_ble_eq_true rfl⟩ (fun r3 u H locs hw hP hD hS => ?_)
  subst hw
  refine lv_if_ne (tgt := 13) hx hb dX4_payBack_6 (by decide) (fun c6 => ?_) (fun c6 => ?_)
  · -- 6 taken
    have c6 := b2_1 c6
    obtain ⟨rc, hrq, ej⟩ := ix_of (n := q) (by omega) c6.1 c6.2
    subst ej
    have hcl : (nI rc).toNatClampNeg = rc := nI_clamp (by omega)
    refine lv_aload_n hx hb dX4_payBack_13 rfl (lv_at hl 0 rfl) ?_
    refine va_get (D := D) (ci := 4) (v := .ref (a 17)) (C := RX4) (T := TX4) (N := 24) hx hb hts (fun w h => List.mem_cons_of_mem _ (List.mem_append_right _ h)) hown hK hP 0 rfl rfl 20 (by decide) (hts (.fieldLink RX4 58 "CashAllocatorModel" "isBounced" "[Z") (by decide +kernel)) (fun _ h9 => h9) rfl dX4_payBack_14 ?_
    refine lv_iload_n hx hb dX4_payBack_17 rfl (lv_at hl 1 rfl) ?_
    refine zbld hx hb hK hP 17 (n := 30) (f := (M 20)) rfl (rc) rfl (by omega) (by decide) dX4_payBack_18 ?_
    refine lv_if_ne (tgt := 31) hx hb dX4_payBack_19 (by decide) (fun c19 => ?_) (fun c19 => ?_)
    · -- 19 taken
      refine lv_iconst (v := 2) hx hb dX4_payBack_31 (by decide) ?_
      refine lv_goto (tgt := 36) hx hb dX4_payBack_32 (by decide) ?_
      refine zcVi (ci := 4) (q0 := 0) (wf := (fun (u : Nat → Nat → Int32) => (wM a cI cZ u))) (List.range 21) ⟨hx, hb, hml, hown, hts⟩ (zwAll 21 (by decide) rfl hP hD hS hA) hK (c_X4_refused_k l D cI cZ a H.size (M) (2) (by first | rfl | decide)) (cwV 1 hts gX4_payBack_X4_refused rfl rfl rfl (by decide +kernel) ⟨Nat.le_of_ble_eq_true rfl, Nat.le_of_ble_eq_true rfl⟩) rfl rfl (by decide) (fun _ => rfl) rfl hl.1 rfl (Nat.le_of_ble_eq_true rfl) dX4_payBack_36 ⟨Nat.le_of_ble_eq_true rfl, Nat.le_of_ble_eq_true rfl⟩ (fun r36 u H locs hw hP hD hS => ?_)
      obtain ⟨rfl, rfl⟩ := hw
      have hP : va_P D vwCl (wM a cI cZ (pt (M) 0 0 (2))) H := hP
      have hD : va_D A (wM a cI cZ (pt (M) 0 0 (2))) := hD
      refine lv_if_eq (tgt := 44) hx hb dX4_payBack_39 (by decide) (fun c39 => ?_) (fun c39 => ?_)
      · -- 39 taken
        exact absurd c39 (by decide)
      · -- 39 on
        refine lv_iconst (v := 0) hx hb dX4_payBack_42 (by decide) ?_
        exact W.iret (v := 0) hx hb hr (fun t ht hW => ⟨⟨0, (pt (M) 0 0 (2)), rfl, ⟨rfl, by rw [pbkK_2 (by rw [show mR M 8 0 = nI q from hMq]; exact dn ⟨nI_pos (by omega), (nI_ltI (by omega) (by omega)).mpr hrq⟩) (by rw [hcl]; exact Or.inl c19)]; rfl⟩, by rw [ht]; exact hP, va_K.moved hW.alike hK, hD⟩, hS.F ht⟩) hS.2.2 dX4_payBack_43
    · -- 19 on
      refine lv_aload_n hx hb dX4_payBack_22 rfl (lv_at hl 0 rfl) ?_
      refine va_get (D := D) (ci := 4) (v := .ref (a 15)) (C := RX4) (T := TX4) (N := 24) hx hb hts (fun w h => List.mem_cons_of_mem _ (List.mem_append_right _ h)) hown hK hP 0 rfl rfl 18 (by decide) (hts (.fieldLink RX4 52 "CashAllocatorModel" "left" "[I") (by decide +kernel)) (fun _ h9 => h9) rfl dX4_payBack_23 ?_
      refine lv_iload_n hx hb dX4_payBack_26 rfl (lv_at hl 1 rfl) ?_
      refine zald hx hb hK hP 15 (n := 30) (f := (M 18)) rfl (rc) rfl (by omega) (by decide) dX4_payBack_27 ?_
      refine lv_if_ne (tgt := 35) hx hb dX4_payBack_28 (by decide) (fun c28 => ?_) (fun c28 => ?_)
      · -- 28 taken
        refine lv_iconst (v := 0) hx hb dX4_payBack_35 (by decide) ?_
        refine zcVi (ci := 4) (q0 := 0) (wf := (fun (u : Nat → Nat → Int32) => (wM a cI cZ u))) (List.range 21) ⟨hx, hb, hml, hown, hts⟩ (zwAll 21 (by decide) rfl hP hD hS hA) hK (c_X4_refused_0 l D cI cZ a H.size (M) (0) (by first | rfl | decide)) (cwV 1 hts gX4_payBack_X4_refused rfl rfl rfl (by decide +kernel) ⟨Nat.le_of_ble_eq_true rfl, Nat.le_of_ble_eq_true rfl⟩) rfl rfl (by decide) (fun _ => rfl) rfl hl.1 rfl (Nat.le_of_ble_eq_true rfl) dX4_payBack_36 ⟨Nat.le_of_ble_eq_true rfl, Nat.le_of_ble_eq_true rfl⟩ (fun r36 u H locs hw hP hD hS => ?_)
        obtain ⟨rfl, rfl⟩ := hw
        have hP : va_P D vwCl (wM a cI cZ (pt (M) 0 0 0)) H := hP
        have hD : va_D A (wM a cI cZ (pt (M) 0 0 0)) := hD
        refine lv_if_eq (tgt := 44) hx hb dX4_payBack_39 (by decide) (fun c39 => ?_) (fun c39 => ?_)
        · -- 39 taken
          exact absurd (pbkK_0 (by rw [show mR M 8 0 = nI q from hMq]; exact dn ⟨nI_pos (by omega), (nI_ltI (by omega) (by omega)).mpr hrq⟩) (by rw [hcl]; exact fun z => z.elim (fun w => w c19) c28)) hk
        · -- 39 on
          exact absurd c39 (by decide)
      · -- 28 on
        refine lv_iconst (v := 2) hx hb dX4_payBack_31 (by decide) ?_
        refine lv_goto (tgt := 36) hx hb dX4_payBack_32 (by decide) ?_
        refine zcVi (ci := 4) (q0 := 0) (wf := (fun (u : Nat → Nat → Int32) => (wM a cI cZ u))) (List.range 21) ⟨hx, hb, hml, hown, hts⟩ (zwAll 21 (by decide) rfl hP hD hS hA) hK (c_X4_refused_k l D cI cZ a H.size (M) (2) (by first | rfl | decide)) (cwV 1 hts gX4_payBack_X4_refused rfl rfl rfl (by decide +kernel) ⟨Nat.le_of_ble_eq_true rfl, Nat.le_of_ble_eq_true rfl⟩) rfl rfl (by decide) (fun _ => rfl) rfl hl.1 rfl (Nat.le_of_ble_eq_true rfl) dX4_payBack_36 ⟨Nat.le_of_ble_eq_true rfl, Nat.le_of_ble_eq_true rfl⟩ (fun r36 u H locs hw hP hD hS => ?_)
        obtain ⟨rfl, rfl⟩ := hw
        have hP : va_P D vwCl (wM a cI cZ (pt (M) 0 0 (2))) H := hP
        have hD : va_D A (wM a cI cZ (pt (M) 0 0 (2))) := hD
        refine lv_if_eq (tgt := 44) hx hb dX4_payBack_39 (by decide) (fun c39 => ?_) (fun c39 => ?_)
        · -- 39 taken
          exact absurd c39 (by decide)
        · -- 39 on
          refine lv_iconst (v := 0) hx hb dX4_payBack_42 (by decide) ?_
          exact W.iret (v := 0) hx hb hr (fun t ht hW => ⟨⟨0, (pt (M) 0 0 (2)), rfl, ⟨rfl, by rw [pbkK_2 (by rw [show mR M 8 0 = nI q from hMq]; exact dn ⟨nI_pos (by omega), (nI_ltI (by omega) (by omega)).mpr hrq⟩) (by rw [hcl]; exact Or.inr c28)]; rfl⟩, by rw [ht]; exact hP, va_K.moved hW.alike hK, hD⟩, hS.F ht⟩) hS.2.2 dX4_payBack_43
  · -- 6 on
    have c6 := b2_0 c6
    refine lv_iconst (v := 1) hx hb dX4_payBack_9 (by decide) ?_
    refine lv_goto (tgt := 36) hx hb dX4_payBack_10 (by decide) ?_
    refine zcVi (ci := 4) (q0 := 0) (wf := (fun (u : Nat → Nat → Int32) => (wM a cI cZ u))) (List.range 21) ⟨hx, hb, hml, hown, hts⟩ (zwAll 21 (by decide) rfl hP hD hS hA) hK (c_X4_refused_k l D cI cZ a H.size (M) (1) (by first | rfl | decide)) (cwV 1 hts gX4_payBack_X4_refused rfl rfl rfl (by decide +kernel) ⟨Nat.le_of_ble_eq_true rfl, Nat.le_of_ble_eq_true rfl⟩) rfl rfl (by decide) (fun _ => rfl) rfl hl.1 rfl (Nat.le_of_ble_eq_true rfl) dX4_payBack_36 ⟨Nat.le_of_ble_eq_true rfl, Nat.le_of_ble_eq_true rfl⟩ (fun r36 u H locs hw hP hD hS => ?_)
    obtain ⟨rfl, rfl⟩ := hw
    have hP : va_P D vwCl (wM a cI cZ (pt (M) 0 0 (1))) H := hP
    have hD : va_D A (wM a cI cZ (pt (M) 0 0 (1))) := hD
    refine lv_if_eq (tgt := 44) hx hb dX4_payBack_39 (by decide) (fun c39 => ?_) (fun c39 => ?_)
    · -- 39 taken
      exact absurd c39 (by decide)
    · -- 39 on
      refine lv_iconst (v := 0) hx hb dX4_payBack_42 (by decide) ?_
      exact W.iret (v := 0) hx hb hr (fun t ht hW => ⟨⟨0, (pt (M) 0 0 (1)), rfl, ⟨rfl, by rw [show pbkK (mR M) vx = 1 from if_pos (by rw [show mR M 8 0 = nI q from hMq]; exact dp c6)]; rfl⟩, by rw [ht]; exact hP, va_K.moved hW.alike hK, hD⟩, hS.F ht⟩) hS.2.2 dX4_payBack_43
set_option maxHeartbeats 4000000 in
set_option maxRecDepth 100000 in
theorem c_X4_bounce_0 (l : Launch) (D : va_G) (cI cZ : ClassId) (a : Nat → Nat) (sz : Nat) (M : Nat → Nat → Int32) (n : Nat) (q : Nat) (rc : Nat) (hM : M 2 0 = nI n) (hn : n ≤ 40) (hMq : M 15 0 = nI q) (hq : q ≤ 30) (hrq : rc < q) (h5 : M 20 rc = 0) (h4 : M 19 rc ≤ 0) : Met l yX4_bounce wsX4_bounce ({ frames := 2, cells := 0, slots := 0, locals := 43 } : Room) (va_Pc [.ref (a 0), .int (nI (rc))] (PreW D cI cZ (wM a cI cZ M) sz)) (va_Qi (fun (r : Int32) (u : Nat → Nat → Int32) => r = nI (mbL rc n 0 0 (pt M 0 0 0)).1 ∧ u = mbo M rc n) (fun (u : Nat → Nat → Int32) => PostW D cI cZ (va_A (wM a cI cZ M) sz) (wM a cI cZ u)) (va_A (wM a cI cZ M) sz)) 0 0 (va_A (wM a cI cZ M) sz) := by
  refine Met.ofW (cc := cX4_bounce) (maxL := 5) (ret := (some .int)) (by decide) rfl ?_
  intro p e s m args below meth c s₁ BB hml hv
  obtain ⟨rfl, hsz, hP, hK, hD0⟩ := hv
  have hx := BB.exec
  have hb := BB.bytes
  have hr := BB.returns
  have hts := atoms_spec (ws := wsX4_bounce) BB.pre
  have hown : s.vm.findClass RX4 = some m.cls := findClass_of_methodNamed BB.named
  have hlocks := BB.notSynchronized
  clear BB
  subst hsz
  have hD := hD0.self (sz := s.heap.size)
  clear hD0
  generalize hAe : va_A (wM a cI cZ M) s.heap.size = A at hD ⊢
  have hA : ∀ q : Nat, s.heap.size ≤ q → A q := fun q h => by rw [← hAe]; exact Or.inr h
  clear hAe
  have hS : va_S A s.heap s.heap [] := va_S.rf
  have hl := lv_entry ([.ref (a 0), .int (nI (rc))]) (n := 5) (Nat.le_of_ble_eq_true rfl)
  rw [lg_entry_eq]
  generalize (lg_sl ([.ref (a 0), .int (nI (rc))]) ++ List.replicate (5 - (lg_sl ([.ref (a 0), .int (nI (rc))])).length) Slot.unset).toArray = ls at hl ⊢
  have hl : lv_has ls 5 [(0, .ref (a 0)), (1, .int (nI (rc)))] := hl
  generalize hHe : s.heap = H at hP
  have hS : va_S A s.heap H [] := by rw [← hHe]; exact va_S.rf
  clear hHe
  generalize hLe : ([] : List Loc) = locs at hS ⊢
  clear hLe
  refine lv_aload_n hx hb dX4_bounce_0 rfl (lv_at hl 0 rfl) ?_
  refine lv_aload_n hx hb dX4_bounce_1 rfl (lv_at hl 0 rfl) ?_
  refine lv_iload_n hx hb dX4_bounce_2 rfl (lv_at hl 1 rfl) ?_
  refine zcVi (ci := 4) (q0 := 0) (wf := (fun (u : Unit) => (wM a cI cZ M))) (List.range 21) ⟨hx, hb, hml, hown, hts⟩ (zwAll 21 (by decide) rfl hP hD hS hA) hK (c_X4_isReceipt l D cI cZ a H.size (M) (nI (rc)) (q) (by first | assumption | omega) (by first | assumption | omega)) (cwV 1 hts gX4_bounce_X4_isReceipt rfl rfl rfl (by decide +kernel) ⟨Nat.le_of_ble_eq_true rfl, Nat.le_of_ble_eq_true rfl⟩) rfl rfl (by decide) (fun _ => rfl) rfl hl.1 rfl (Nat.le_of_ble_eq_true rfl) dX4_bounce_3 ⟨Nat.le_of_ble_eq_true rfl, Nat.le_of_ble_eq_true rfl⟩ (fun r3 u H locs hw hP hD hS => ?_)
  subst hw
  refine lv_if_ne (tgt := 13) hx hb dX4_bounce_6 (by decide) (fun c6 => ?_) (fun c6 => ?_)
  · -- 6 taken
    have c6 := b2_1 c6
    refine lv_aload_n hx hb dX4_bounce_13 rfl (lv_at hl 0 rfl) ?_
    refine va_get (D := D) (ci := 4) (v := .ref (a 17)) (C := RX4) (T := TX4) (N := 24) hx hb hts (fun w h => List.mem_cons_of_mem _ (List.mem_append_right _ h)) hown hK hP 0 rfl rfl 20 (by decide) (hts (.fieldLink RX4 58 "CashAllocatorModel" "isBounced" "[Z") (by decide +kernel)) (fun _ h9 => h9) rfl dX4_bounce_14 ?_
    refine lv_iload_n hx hb dX4_bounce_17 rfl (lv_at hl 1 rfl) ?_
    refine zbld hx hb hK hP 17 (n := 30) (f := (M 20)) rfl (rc) rfl (by omega) (by decide) dX4_bounce_18 ?_
    refine lv_if_ne (tgt := 31) hx hb dX4_bounce_19 (by decide) (fun c19 => ?_) (fun c19 => ?_)
    · -- 19 taken
      exact absurd h5 c19
    · -- 19 on
      refine lv_aload_n hx hb dX4_bounce_22 rfl (lv_at hl 0 rfl) ?_
      refine va_get (D := D) (ci := 4) (v := .ref (a 16)) (C := RX4) (T := TX4) (N := 24) hx hb hts (fun w h => List.mem_cons_of_mem _ (List.mem_append_right _ h)) hown hK hP 0 rfl rfl 19 (by decide) (hts (.fieldLink RX4 55 "CashAllocatorModel" "backs" "[I") (by decide +kernel)) (fun _ h9 => h9) rfl dX4_bounce_23 ?_
      refine lv_iload_n hx hb dX4_bounce_26 rfl (lv_at hl 1 rfl) ?_
      refine zald hx hb hK hP 16 (n := 30) (f := (M 19)) rfl (rc) rfl (by omega) (by decide) dX4_bounce_27 ?_
      refine lv_if_le (tgt := 35) hx hb dX4_bounce_28 (by decide) (fun c28 => ?_) (fun c28 => ?_)
      · -- 28 taken
        refine lv_iconst (v := 0) hx hb dX4_bounce_35 (by decide) ?_
        refine zcVi (ci := 4) (q0 := 0) (wf := (fun (u : Nat → Nat → Int32) => (wM a cI cZ u))) (List.range 21) ⟨hx, hb, hml, hown, hts⟩ (zwAll 21 (by decide) rfl hP hD hS hA) hK (c_X4_refused_0 l D cI cZ a H.size (M) (0) (by first | rfl | decide)) (cwV 1 hts gX4_bounce_X4_refused rfl rfl rfl (by decide +kernel) ⟨Nat.le_of_ble_eq_true rfl, Nat.le_of_ble_eq_true rfl⟩) rfl rfl (by decide) (fun _ => rfl) rfl hl.1 rfl (Nat.le_of_ble_eq_true rfl) dX4_bounce_36 ⟨Nat.le_of_ble_eq_true rfl, Nat.le_of_ble_eq_true rfl⟩ (fun r36 u H locs hw hP hD hS => ?_)
        obtain ⟨rfl, rfl⟩ := hw
        have hP : va_P D vwCl (wM a cI cZ (pt (M) 0 0 0)) H := hP
        have hD : va_D A (wM a cI cZ (pt (M) 0 0 0)) := hD
        refine lv_if_eq (tgt := 44) hx hb dX4_bounce_39 (by decide) (fun c39 => ?_) (fun c39 => ?_)
        · -- 39 taken
          refine lv_iconst (v := nI (0)) hx hb dX4_bounce_44 (by decide) ?_
          refine lv_istore_n (lv' := [(2, .int (nI (0))), (0, .ref (a 0)), (1, .int (nI (rc)))]) hx hb dX4_bounce_45 rfl hl (by decide) rfl (fun ls hl => ?_)
          refine lv_iconst (v := nI (0)) hx hb dX4_bounce_46 (by decide) ?_
          refine lv_istore_n (lv' := [(3, .int (nI (0))), (2, .int (nI (0))), (0, .ref (a 0)), (1, .int (nI (rc)))]) hx hb dX4_bounce_47 rfl hl (by decide) rfl (fun ls hl => ?_)
          have loop48 : ∀ (fu : Nat) (i : Nat) (uu : Nat) (Mi : Nat → Nat → Int32) (hin : i ≤ n) (hMi : Mi 2 0 = nI n) (hg : mbL rc n 0 0 (pt M 0 0 0) = mbL rc (n - i) i uu Mi) (hfu : n - i < fu) (H : Heap) (locs : List Loc) (hP : va_P D vwCl (wM a cI cZ Mi) H) (hD : va_D A (wM a cI cZ Mi)) (hS : va_S A s.heap H locs) (ls : Array Slot) (hl : lv_has ls 5 [(3, .int (nI (i))), (2, .int (nI (uu))), (0, .ref (a 0)), (1, .int (nI (rc)))]), W p l e (headSpec wsX4_bounce ({ frames := 2, cells := 0, slots := 0, locals := 43 } : Room)).room s m ([.ref (a 0), .int (nI (rc))] : List Value).toArray below meth c H locs 0 0 (MQ below (va_Qi (fun (r : Int32) (u : Nat → Nat → Int32) => r = nI (mbL rc n 0 0 (pt M 0 0 0)).1 ∧ u = mbo M rc n) (fun (u : Nat → Nat → Int32) => PostW D cI cZ A (wM a cI cZ u)) A) ([.ref (a 0), .int (nI (rc))] : List Value).toArray s 0 0 A) (F0 m 48 ls []) := by
            clear hP hD hS hl
            intro fu48
            induction fu48 with
            | zero => intro i uu Mi hin hMi hg hfu; exact absurd hfu (Nat.not_lt_zero _)
            | succ fu48 ih48 =>
              intro i uu Mi hin hMi hg hfu H locs hP hD hS ls hl
              refine lv_iload_n hx hb dX4_bounce_48 rfl (lv_at hl 0 rfl) ?_
              refine lv_aload_n hx hb dX4_bounce_49 rfl (lv_at hl 2 rfl) ?_
              refine va_get (D := D) (ci := 4) (v := .int (nI (n))) (C := RX4) (T := TX4) (N := 24) hx hb hts (fun w h => List.mem_cons_of_mem _ (List.mem_append_right _ h)) hown hK hP 0 rfl rfl 2 (by decide) (hts (.fieldLink RX4 79 "CashAllocatorModel" "bills" "I") (by decide +kernel)) (fun _ h9 => h9) (congrArg (fun z => some (Value.int z)) hMi) dX4_bounce_50 ?_
              refine lv_icmp_ge (tgt := 160) hx hb dX4_bounce_53 (by decide) (fun c53 => ?_) (fun c53 => ?_)
              · -- 53 taken
                rw [nI_leI (by omega) (by omega)] at c53
                have hfin : mbL rc n 0 0 (pt M 0 0 0) = (uu, Mi) := by rw [hg, show n - i = 0 by omega]; rfl
                refine lv_aload_n hx hb dX4_bounce_160 rfl (lv_at hl 2 rfl) ?_
                refine va_get (D := D) (ci := 4) (v := .ref (a 15)) (C := RX4) (T := TX4) (N := 24) hx hb hts (fun w h => List.mem_cons_of_mem _ (List.mem_append_right _ h)) hown hK hP 0 rfl rfl 18 (by decide) (hts (.fieldLink RX4 52 "CashAllocatorModel" "left" "[I") (by decide +kernel)) (fun _ h9 => h9) rfl dX4_bounce_161 ?_
                refine lv_iload_n hx hb dX4_bounce_164 rfl (lv_at hl 3 rfl) ?_
                refine lv_iconst (v := 0) hx hb dX4_bounce_165 (by decide) ?_
                refine zast hx hb hK hP hD hS 15 (n := 30) (f := (Mi 18)) rfl (rc) rfl (by omega) (by decide) (wM a cI cZ (pt Mi 18 (rc) (0))) rfl dX4_bounce_166 (fun H locs hP hD hS => ?_)
                refine lv_aload_n hx hb dX4_bounce_167 rfl (lv_at hl 2 rfl) ?_
                refine va_get (D := D) (ci := 4) (v := .ref (a 17)) (C := RX4) (T := TX4) (N := 24) hx hb hts (fun w h => List.mem_cons_of_mem _ (List.mem_append_right _ h)) hown hK hP 0 rfl rfl 20 (by decide) (hts (.fieldLink RX4 58 "CashAllocatorModel" "isBounced" "[Z") (by decide +kernel)) (fun _ h9 => h9) rfl dX4_bounce_168 ?_
                refine lv_iload_n hx hb dX4_bounce_171 rfl (lv_at hl 3 rfl) ?_
                refine lv_iconst (v := 1) hx hb dX4_bounce_172 (by decide) ?_
                refine zbst hx hb hK hP hD hS 17 (n := 30) (f := (Mi 20)) rfl (rc) rfl (by omega) (by decide) (by decide) (wM a cI cZ (pt (pt Mi 18 (rc) (0)) 20 (rc) (1))) rfl dX4_bounce_173 (fun H locs hP hD hS => ?_)
                refine lv_iload_n hx hb dX4_bounce_174 rfl (lv_at hl 1 rfl) ?_
                exact W.iret (v := nI (uu)) hx hb hr (fun t ht hW => ⟨⟨nI (uu), (pt (pt Mi 18 (rc) (0)) 20 (rc) (1)), rfl, ⟨by rw [hfin], by unfold mbo; rw [hfin]⟩, by rw [ht]; exact hP, va_K.moved hW.alike hK, hD⟩, hS.F ht⟩) hS.2.2 dX4_bounce_175
              · -- 53 on
                rw [nI_leI (by omega) (by omega)] at c53
                have c53 : i < n := by omega
                have hk : n - i = (n - (i + 1)) + 1 := by omega
                rw [hk] at hg
                refine lv_bipush (v := nI (40)) hx hb dX4_bounce_56 (by decide) ?_
                refine lv_iload_n hx hb dX4_bounce_58 rfl (lv_at hl 3 rfl) ?_
                refine lv_imul hx hb dX4_bounce_59 ?_
                rw [pk_mul]
                refine lv_iload_n hx hb dX4_bounce_60 rfl (lv_at hl 0 rfl) ?_
                refine lv_iadd hx hb dX4_bounce_61 ?_
                rw [nI_add]
                refine lv_istore (lv' := [(4, .int (nI (40 * rc + i))), (3, .int (nI (i))), (2, .int (nI (uu))), (0, .ref (a 0)), (1, .int (nI (rc)))]) hx hb dX4_bounce_62 hl (by decide) rfl (fun ls hl => ?_)
                refine lv_iload_n hx hb dX4_bounce_64 rfl (lv_at hl 2 rfl) ?_
                refine lv_aload_n hx hb dX4_bounce_65 rfl (lv_at hl 3 rfl) ?_
                refine va_get (D := D) (ci := 4) (v := .ref (a 19)) (C := RX4) (T := TX4) (N := 24) hx hb hts (fun w h => List.mem_cons_of_mem _ (List.mem_append_right _ h)) hown hK hP 0 rfl rfl 22 (by decide) (hts (.fieldLink RX4 65 "CashAllocatorModel" "hasPaid" "[Z") (by decide +kernel)) (fun _ h9 => h9) rfl dX4_bounce_66 ?_
                refine lv_iload hx hb dX4_bounce_69 (lv_at hl 0 rfl) ?_
                refine zbld hx hb hK hP 19 (n := 1200) (f := (Mi 22)) rfl (40 * rc + i) rfl (by omega) (by decide) dX4_bounce_71 ?_
                refine lv_if_eq (tgt := 79) hx hb dX4_bounce_72 (by decide) (fun c72 => ?_) (fun c72 => ?_)
                · -- 72 taken
                  refine lv_iconst (v := nI (0)) hx hb dX4_bounce_79 (by decide) ?_
                  refine lv_iadd hx hb dX4_bounce_80 ?_
                  rw [nI_add]
                  refine lv_istore_n (lv' := [(2, .int (nI (uu + 0))), (4, .int (nI (40 * rc + i))), (3, .int (nI (i))), (0, .ref (a 0)), (1, .int (nI (rc)))]) hx hb dX4_bounce_81 rfl hl (by decide) rfl (fun ls hl => ?_)
                  refine lv_aload_n hx hb dX4_bounce_82 rfl (lv_at hl 3 rfl) ?_
                  refine va_get (D := D) (ci := 4) (v := .ref (a 7)) (C := RX4) (T := TX4) (N := 24) hx hb hts (fun w h => List.mem_cons_of_mem _ (List.mem_append_right _ h)) hown hK hP 0 rfl rfl 9 (by decide) (hts (.fieldLink RX4 28 "CashAllocatorModel" "paidOf" "[I") (by decide +kernel)) (fun _ h9 => h9) rfl dX4_bounce_83 ?_
                  refine lv_iload_n hx hb dX4_bounce_86 rfl (lv_at hl 2 rfl) ?_
                  refine lv_dup2_11 hx hb dX4_bounce_87 rfl rfl ?_
                  refine zald hx hb hK hP 7 (n := 40) (f := (Mi 9)) rfl (i) rfl (by omega) (by decide) dX4_bounce_88 ?_
                  refine lv_aload_n hx hb dX4_bounce_89 rfl (lv_at hl 3 rfl) ?_
                  refine va_get (D := D) (ci := 4) (v := .ref (a 18)) (C := RX4) (T := TX4) (N := 24) hx hb hts (fun w h => List.mem_cons_of_mem _ (List.mem_append_right _ h)) hown hK hP 0 rfl rfl 21 (by decide) (hts (.fieldLink RX4 62 "CashAllocatorModel" "paidBy" "[I") (by decide +kernel)) (fun _ h9 => h9) rfl dX4_bounce_90 ?_
                  refine lv_iload hx hb dX4_bounce_93 (lv_at hl 1 rfl) ?_
                  refine zald hx hb hK hP 18 (n := 1200) (f := (Mi 21)) rfl (40 * rc + i) rfl (by omega) (by decide) dX4_bounce_95 ?_
                  refine lv_isub hx hb dX4_bounce_96 ?_
                  refine zast hx hb hK hP hD hS 7 (n := 40) (f := (Mi 9)) rfl (i) rfl (by omega) (by decide) (wM a cI cZ (pt Mi 9 (i) ((Mi 9 (i)) - (Mi 21 (40 * rc + i))))) rfl dX4_bounce_97 (fun H locs hP hD hS => ?_)
                  refine lv_aload_n hx hb dX4_bounce_98 rfl (lv_at hl 3 rfl) ?_
                  refine va_get (D := D) (ci := 4) (v := .ref (a 18)) (C := RX4) (T := TX4) (N := 24) hx hb hts (fun w h => List.mem_cons_of_mem _ (List.mem_append_right _ h)) hown hK hP 0 rfl rfl 21 (by decide) (hts (.fieldLink RX4 62 "CashAllocatorModel" "paidBy" "[I") (by decide +kernel)) (fun _ h9 => h9) rfl dX4_bounce_99 ?_
                  refine lv_iload hx hb dX4_bounce_102 (lv_at hl 1 rfl) ?_
                  refine lv_iconst (v := 0) hx hb dX4_bounce_104 (by decide) ?_
                  refine zast hx hb hK hP hD hS 18 (n := 1200) (f := (Mi 21)) rfl (40 * rc + i) rfl (by omega) (by decide) (wM a cI cZ (pt (pt Mi 9 (i) ((Mi 9 (i)) - (Mi 21 (40 * rc + i)))) 21 (40 * rc + i) (0))) rfl dX4_bounce_105 (fun H locs hP hD hS => ?_)
                  refine lv_aload_n hx hb dX4_bounce_106 rfl (lv_at hl 3 rfl) ?_
                  refine va_get (D := D) (ci := 4) (v := .ref (a 9)) (C := RX4) (T := TX4) (N := 24) hx hb hts (fun w h => List.mem_cons_of_mem _ (List.mem_append_right _ h)) hown hK hP 0 rfl rfl 11 (by decide) (hts (.fieldLink RX4 34 "CashAllocatorModel" "takers" "[I") (by decide +kernel)) (fun _ h9 => h9) rfl dX4_bounce_107 ?_
                  refine lv_iload_n hx hb dX4_bounce_110 rfl (lv_at hl 2 rfl) ?_
                  refine zald hx hb hK hP 9 (n := 40) (f := (Mi 11)) rfl (i) rfl (by omega) (by decide) dX4_bounce_111 ?_
                  refine lv_iload_n hx hb dX4_bounce_112 rfl (lv_at hl 4 rfl) ?_
                  refine lv_icmp_ne (tgt := 130) hx hb dX4_bounce_113 (by decide) (fun c113 => ?_) (fun c113 => ?_)
                  · -- 113 taken
                    refine lv_aload_n hx hb dX4_bounce_130 rfl (lv_at hl 3 rfl) ?_
                    refine va_get (D := D) (ci := 4) (v := .ref (a 11)) (C := RX4) (T := TX4) (N := 24) hx hb hts (fun w h => List.mem_cons_of_mem _ (List.mem_append_right _ h)) hown hK hP 0 rfl rfl 13 (by decide) (hts (.fieldLink RX4 40 "CashAllocatorModel" "raisers" "[I") (by decide +kernel)) (fun _ h9 => h9) rfl dX4_bounce_131 ?_
                    refine lv_iload_n hx hb dX4_bounce_134 rfl (lv_at hl 2 rfl) ?_
                    refine zald hx hb hK hP 11 (n := 40) (f := (Mi 13)) rfl (i) rfl (by omega) (by decide) dX4_bounce_135 ?_
                    refine lv_iload_n hx hb dX4_bounce_136 rfl (lv_at hl 4 rfl) ?_
                    refine lv_icmp_ne (tgt := 154) hx hb dX4_bounce_137 (by decide) (fun c137 => ?_) (fun c137 => ?_)
                    · -- 137 taken
                      refine lv_iinc (v := nI (i + 1)) (lv' := [(3, .int (nI (i + 1))), (2, .int (nI (uu + 0))), (4, .int (nI (40 * rc + i))), (0, .ref (a 0)), (1, .int (nI (rc)))]) hx hb dX4_bounce_154 hl (k := 2) rfl (nI_1 _) (by decide) rfl (fun ls hl => ?_)
                      refine lv_goto (tgt := 48) hx hb dX4_bounce_157 (by decide) ?_
                      exact ih48 (i + 1) (uu + 0) ((pt (pt Mi 9 (i) ((Mi 9 (i)) - (Mi 21 (40 * rc + i)))) 21 (40 * rc + i) (0))) (by omega) hMi (by rw [hg, mbL, show (if Mi 22 (40 * rc + i) = 0 then uu else uu + 1) = uu + 0 from if_pos c72, mbs_eq (Or.inr ⟨c113, rfl⟩) (Or.inr ⟨c137, rfl⟩)]; rfl) (by omega) _ _ hP hD hS _ (lv_sub hl [0, 1, 3, 4] rfl)
                    · -- 137 on
                      refine lv_aload_n hx hb dX4_bounce_140 rfl (lv_at hl 3 rfl) ?_
                      refine va_get (D := D) (ci := 4) (v := .ref (a 10)) (C := RX4) (T := TX4) (N := 24) hx hb hts (fun w h => List.mem_cons_of_mem _ (List.mem_append_right _ h)) hown hK hP 0 rfl rfl 12 (by decide) (hts (.fieldLink RX4 37 "CashAllocatorModel" "disputedOf" "[I") (by decide +kernel)) (fun _ h9 => h9) rfl dX4_bounce_141 ?_
                      refine lv_iload_n hx hb dX4_bounce_144 rfl (lv_at hl 2 rfl) ?_
                      refine lv_iconst (v := 0) hx hb dX4_bounce_145 (by decide) ?_
                      refine zast hx hb hK hP hD hS 10 (n := 40) (f := (Mi 12)) rfl (i) rfl (by omega) (by decide) (wM a cI cZ (pt (pt (pt Mi 9 (i) ((Mi 9 (i)) - (Mi 21 (40 * rc + i)))) 21 (40 * rc + i) (0)) 12 (i) (0))) rfl dX4_bounce_146 (fun H locs hP hD hS => ?_)
                      refine lv_aload_n hx hb dX4_bounce_147 rfl (lv_at hl 3 rfl) ?_
                      refine va_get (D := D) (ci := 4) (v := .ref (a 11)) (C := RX4) (T := TX4) (N := 24) hx hb hts (fun w h => List.mem_cons_of_mem _ (List.mem_append_right _ h)) hown hK hP 0 rfl rfl 13 (by decide) (hts (.fieldLink RX4 40 "CashAllocatorModel" "raisers" "[I") (by decide +kernel)) (fun _ h9 => h9) rfl dX4_bounce_148 ?_
                      refine lv_iload_n hx hb dX4_bounce_151 rfl (lv_at hl 2 rfl) ?_
                      refine lv_iconst (v := (-1)) hx hb dX4_bounce_152 (by decide) ?_
                      refine zast hx hb hK hP hD hS 11 (n := 40) (f := (Mi 13)) rfl (i) rfl (by omega) (by decide) (wM a cI cZ (pt (pt (pt (pt Mi 9 (i) ((Mi 9 (i)) - (Mi 21 (40 * rc + i)))) 21 (40 * rc + i) (0)) 12 (i) (0)) 13 (i) ((-1)))) rfl dX4_bounce_153 (fun H locs hP hD hS => ?_)
                      refine lv_iinc (v := nI (i + 1)) (lv' := [(3, .int (nI (i + 1))), (2, .int (nI (uu + 0))), (4, .int (nI (40 * rc + i))), (0, .ref (a 0)), (1, .int (nI (rc)))]) hx hb dX4_bounce_154 hl (k := 2) rfl (nI_1 _) (by decide) rfl (fun ls hl => ?_)
                      refine lv_goto (tgt := 48) hx hb dX4_bounce_157 (by decide) ?_
                      exact ih48 (i + 1) (uu + 0) ((pt (pt (pt (pt Mi 9 (i) ((Mi 9 (i)) - (Mi 21 (40 * rc + i)))) 21 (40 * rc + i) (0)) 12 (i) (0)) 13 (i) ((-1)))) (by omega) hMi (by rw [hg, mbL, show (if Mi 22 (40 * rc + i) = 0 then uu else uu + 1) = uu + 0 from if_pos c72, mbs_eq (Or.inr ⟨c113, rfl⟩) (Or.inl ⟨c137, rfl⟩)]; rfl) (by omega) _ _ hP hD hS _ (lv_sub hl [0, 1, 3, 4] rfl)
                  · -- 113 on
                    refine lv_aload_n hx hb dX4_bounce_116 rfl (lv_at hl 3 rfl) ?_
                    refine va_get (D := D) (ci := 4) (v := .ref (a 8)) (C := RX4) (T := TX4) (N := 24) hx hb hts (fun w h => List.mem_cons_of_mem _ (List.mem_append_right _ h)) hown hK hP 0 rfl rfl 10 (by decide) (hts (.fieldLink RX4 31 "CashAllocatorModel" "takenOf" "[I") (by decide +kernel)) (fun _ h9 => h9) rfl dX4_bounce_117 ?_
                    refine lv_iload_n hx hb dX4_bounce_120 rfl (lv_at hl 2 rfl) ?_
                    refine lv_iconst (v := 0) hx hb dX4_bounce_121 (by decide) ?_
                    refine zast hx hb hK hP hD hS 8 (n := 40) (f := (Mi 10)) rfl (i) rfl (by omega) (by decide) (wM a cI cZ (pt (pt (pt Mi 9 (i) ((Mi 9 (i)) - (Mi 21 (40 * rc + i)))) 21 (40 * rc + i) (0)) 10 (i) (0))) rfl dX4_bounce_122 (fun H locs hP hD hS => ?_)
                    refine lv_aload_n hx hb dX4_bounce_123 rfl (lv_at hl 3 rfl) ?_
                    refine va_get (D := D) (ci := 4) (v := .ref (a 9)) (C := RX4) (T := TX4) (N := 24) hx hb hts (fun w h => List.mem_cons_of_mem _ (List.mem_append_right _ h)) hown hK hP 0 rfl rfl 11 (by decide) (hts (.fieldLink RX4 34 "CashAllocatorModel" "takers" "[I") (by decide +kernel)) (fun _ h9 => h9) rfl dX4_bounce_124 ?_
                    refine lv_iload_n hx hb dX4_bounce_127 rfl (lv_at hl 2 rfl) ?_
                    refine lv_iconst (v := (-1)) hx hb dX4_bounce_128 (by decide) ?_
                    refine zast hx hb hK hP hD hS 9 (n := 40) (f := (Mi 11)) rfl (i) rfl (by omega) (by decide) (wM a cI cZ (pt (pt (pt (pt Mi 9 (i) ((Mi 9 (i)) - (Mi 21 (40 * rc + i)))) 21 (40 * rc + i) (0)) 10 (i) (0)) 11 (i) ((-1)))) rfl dX4_bounce_129 (fun H locs hP hD hS => ?_)
                    refine lv_aload_n hx hb dX4_bounce_130 rfl (lv_at hl 3 rfl) ?_
                    refine va_get (D := D) (ci := 4) (v := .ref (a 11)) (C := RX4) (T := TX4) (N := 24) hx hb hts (fun w h => List.mem_cons_of_mem _ (List.mem_append_right _ h)) hown hK hP 0 rfl rfl 13 (by decide) (hts (.fieldLink RX4 40 "CashAllocatorModel" "raisers" "[I") (by decide +kernel)) (fun _ h9 => h9) rfl dX4_bounce_131 ?_
                    refine lv_iload_n hx hb dX4_bounce_134 rfl (lv_at hl 2 rfl) ?_
                    refine zald hx hb hK hP 11 (n := 40) (f := (Mi 13)) rfl (i) rfl (by omega) (by decide) dX4_bounce_135 ?_
                    refine lv_iload_n hx hb dX4_bounce_136 rfl (lv_at hl 4 rfl) ?_
                    refine lv_icmp_ne (tgt := 154) hx hb dX4_bounce_137 (by decide) (fun c137 => ?_) (fun c137 => ?_)
                    · -- 137 taken
                      refine lv_iinc (v := nI (i + 1)) (lv' := [(3, .int (nI (i + 1))), (2, .int (nI (uu + 0))), (4, .int (nI (40 * rc + i))), (0, .ref (a 0)), (1, .int (nI (rc)))]) hx hb dX4_bounce_154 hl (k := 2) rfl (nI_1 _) (by decide) rfl (fun ls hl => ?_)
                      refine lv_goto (tgt := 48) hx hb dX4_bounce_157 (by decide) ?_
                      exact ih48 (i + 1) (uu + 0) ((pt (pt (pt (pt Mi 9 (i) ((Mi 9 (i)) - (Mi 21 (40 * rc + i)))) 21 (40 * rc + i) (0)) 10 (i) (0)) 11 (i) ((-1)))) (by omega) hMi (by rw [hg, mbL, show (if Mi 22 (40 * rc + i) = 0 then uu else uu + 1) = uu + 0 from if_pos c72, mbs_eq (Or.inl ⟨c113, rfl⟩) (Or.inr ⟨c137, rfl⟩)]; rfl) (by omega) _ _ hP hD hS _ (lv_sub hl [0, 1, 3, 4] rfl)
                    · -- 137 on
                      refine lv_aload_n hx hb dX4_bounce_140 rfl (lv_at hl 3 rfl) ?_
                      refine va_get (D := D) (ci := 4) (v := .ref (a 10)) (C := RX4) (T := TX4) (N := 24) hx hb hts (fun w h => List.mem_cons_of_mem _ (List.mem_append_right _ h)) hown hK hP 0 rfl rfl 12 (by decide) (hts (.fieldLink RX4 37 "CashAllocatorModel" "disputedOf" "[I") (by decide +kernel)) (fun _ h9 => h9) rfl dX4_bounce_141 ?_
                      refine lv_iload_n hx hb dX4_bounce_144 rfl (lv_at hl 2 rfl) ?_
                      refine lv_iconst (v := 0) hx hb dX4_bounce_145 (by decide) ?_
                      refine zast hx hb hK hP hD hS 10 (n := 40) (f := (Mi 12)) rfl (i) rfl (by omega) (by decide) (wM a cI cZ (pt (pt (pt (pt (pt Mi 9 (i) ((Mi 9 (i)) - (Mi 21 (40 * rc + i)))) 21 (40 * rc + i) (0)) 10 (i) (0)) 11 (i) ((-1))) 12 (i) (0))) rfl dX4_bounce_146 (fun H locs hP hD hS => ?_)
                      refine lv_aload_n hx hb dX4_bounce_147 rfl (lv_at hl 3 rfl) ?_
                      refine va_get (D := D) (ci := 4) (v := .ref (a 11)) (C := RX4) (T := TX4) (N := 24) hx hb hts (fun w h => List.mem_cons_of_mem _ (List.mem_append_right _ h)) hown hK hP 0 rfl rfl 13 (by decide) (hts (.fieldLink RX4 40 "CashAllocatorModel" "raisers" "[I") (by decide +kernel)) (fun _ h9 => h9) rfl dX4_bounce_148 ?_
                      refine lv_iload_n hx hb dX4_bounce_151 rfl (lv_at hl 2 rfl) ?_
                      refine lv_iconst (v := (-1)) hx hb dX4_bounce_152 (by decide) ?_
                      refine zast hx hb hK hP hD hS 11 (n := 40) (f := (Mi 13)) rfl (i) rfl (by omega) (by decide) (wM a cI cZ (pt (pt (pt (pt (pt (pt Mi 9 (i) ((Mi 9 (i)) - (Mi 21 (40 * rc + i)))) 21 (40 * rc + i) (0)) 10 (i) (0)) 11 (i) ((-1))) 12 (i) (0)) 13 (i) ((-1)))) rfl dX4_bounce_153 (fun H locs hP hD hS => ?_)
                      refine lv_iinc (v := nI (i + 1)) (lv' := [(3, .int (nI (i + 1))), (2, .int (nI (uu + 0))), (4, .int (nI (40 * rc + i))), (0, .ref (a 0)), (1, .int (nI (rc)))]) hx hb dX4_bounce_154 hl (k := 2) rfl (nI_1 _) (by decide) rfl (fun ls hl => ?_)
                      refine lv_goto (tgt := 48) hx hb dX4_bounce_157 (by decide) ?_
                      exact ih48 (i + 1) (uu + 0) ((pt (pt (pt (pt (pt (pt Mi 9 (i) ((Mi 9 (i)) - (Mi 21 (40 * rc + i)))) 21 (40 * rc + i) (0)) 10 (i) (0)) 11 (i) ((-1))) 12 (i) (0)) 13 (i) ((-1)))) (by omega) hMi (by rw [hg, mbL, show (if Mi 22 (40 * rc + i) = 0 then uu else uu + 1) = uu + 0 from if_pos c72, mbs_eq (Or.inl ⟨c113, rfl⟩) (Or.inl ⟨c137, rfl⟩)]; rfl) (by omega) _ _ hP hD hS _ (lv_sub hl [0, 1, 3, 4] rfl)
                · -- 72 on
                  refine lv_iconst (v := nI (1)) hx hb dX4_bounce_75 (by decide) ?_
                  refine lv_goto (tgt := 80) hx hb dX4_bounce_76 (by decide) ?_
                  refine lv_iadd hx hb dX4_bounce_80 ?_
                  rw [nI_add]
                  refine lv_istore_n (lv' := [(2, .int (nI (uu + 1))), (4, .int (nI (40 * rc + i))), (3, .int (nI (i))), (0, .ref (a 0)), (1, .int (nI (rc)))]) hx hb dX4_bounce_81 rfl hl (by decide) rfl (fun ls hl => ?_)
                  refine lv_aload_n hx hb dX4_bounce_82 rfl (lv_at hl 3 rfl) ?_
                  refine va_get (D := D) (ci := 4) (v := .ref (a 7)) (C := RX4) (T := TX4) (N := 24) hx hb hts (fun w h => List.mem_cons_of_mem _ (List.mem_append_right _ h)) hown hK hP 0 rfl rfl 9 (by decide) (hts (.fieldLink RX4 28 "CashAllocatorModel" "paidOf" "[I") (by decide +kernel)) (fun _ h9 => h9) rfl dX4_bounce_83 ?_
                  refine lv_iload_n hx hb dX4_bounce_86 rfl (lv_at hl 2 rfl) ?_
                  refine lv_dup2_11 hx hb dX4_bounce_87 rfl rfl ?_
                  refine zald hx hb hK hP 7 (n := 40) (f := (Mi 9)) rfl (i) rfl (by omega) (by decide) dX4_bounce_88 ?_
                  refine lv_aload_n hx hb dX4_bounce_89 rfl (lv_at hl 3 rfl) ?_
                  refine va_get (D := D) (ci := 4) (v := .ref (a 18)) (C := RX4) (T := TX4) (N := 24) hx hb hts (fun w h => List.mem_cons_of_mem _ (List.mem_append_right _ h)) hown hK hP 0 rfl rfl 21 (by decide) (hts (.fieldLink RX4 62 "CashAllocatorModel" "paidBy" "[I") (by decide +kernel)) (fun _ h9 => h9) rfl dX4_bounce_90 ?_
                  refine lv_iload hx hb dX4_bounce_93 (lv_at hl 1 rfl) ?_
                  refine zald hx hb hK hP 18 (n := 1200) (f := (Mi 21)) rfl (40 * rc + i) rfl (by omega) (by decide) dX4_bounce_95 ?_
                  refine lv_isub hx hb dX4_bounce_96 ?_
                  refine zast hx hb hK hP hD hS 7 (n := 40) (f := (Mi 9)) rfl (i) rfl (by omega) (by decide) (wM a cI cZ (pt Mi 9 (i) ((Mi 9 (i)) - (Mi 21 (40 * rc + i))))) rfl dX4_bounce_97 (fun H locs hP hD hS => ?_)
                  refine lv_aload_n hx hb dX4_bounce_98 rfl (lv_at hl 3 rfl) ?_
                  refine va_get (D := D) (ci := 4) (v := .ref (a 18)) (C := RX4) (T := TX4) (N := 24) hx hb hts (fun w h => List.mem_cons_of_mem _ (List.mem_append_right _ h)) hown hK hP 0 rfl rfl 21 (by decide) (hts (.fieldLink RX4 62 "CashAllocatorModel" "paidBy" "[I") (by decide +kernel)) (fun _ h9 => h9) rfl dX4_bounce_99 ?_
                  refine lv_iload hx hb dX4_bounce_102 (lv_at hl 1 rfl) ?_
                  refine lv_iconst (v := 0) hx hb dX4_bounce_104 (by decide) ?_
                  refine zast hx hb hK hP hD hS 18 (n := 1200) (f := (Mi 21)) rfl (40 * rc + i) rfl (by omega) (by decide) (wM a cI cZ (pt (pt Mi 9 (i) ((Mi 9 (i)) - (Mi 21 (40 * rc + i)))) 21 (40 * rc + i) (0))) rfl dX4_bounce_105 (fun H locs hP hD hS => ?_)
                  refine lv_aload_n hx hb dX4_bounce_106 rfl (lv_at hl 3 rfl) ?_
                  refine va_get (D := D) (ci := 4) (v := .ref (a 9)) (C := RX4) (T := TX4) (N := 24) hx hb hts (fun w h => List.mem_cons_of_mem _ (List.mem_append_right _ h)) hown hK hP 0 rfl rfl 11 (by decide) (hts (.fieldLink RX4 34 "CashAllocatorModel" "takers" "[I") (by decide +kernel)) (fun _ h9 => h9) rfl dX4_bounce_107 ?_
                  refine lv_iload_n hx hb dX4_bounce_110 rfl (lv_at hl 2 rfl) ?_
                  refine zald hx hb hK hP 9 (n := 40) (f := (Mi 11)) rfl (i) rfl (by omega) (by decide) dX4_bounce_111 ?_
                  refine lv_iload_n hx hb dX4_bounce_112 rfl (lv_at hl 4 rfl) ?_
                  refine lv_icmp_ne (tgt := 130) hx hb dX4_bounce_113 (by decide) (fun c113 => ?_) (fun c113 => ?_)
                  · -- 113 taken
                    refine lv_aload_n hx hb dX4_bounce_130 rfl (lv_at hl 3 rfl) ?_
                    refine va_get (D := D) (ci := 4) (v := .ref (a 11)) (C := RX4) (T := TX4) (N := 24) hx hb hts (fun w h => List.mem_cons_of_mem _ (List.mem_append_right _ h)) hown hK hP 0 rfl rfl 13 (by decide) (hts (.fieldLink RX4 40 "CashAllocatorModel" "raisers" "[I") (by decide +kernel)) (fun _ h9 => h9) rfl dX4_bounce_131 ?_
                    refine lv_iload_n hx hb dX4_bounce_134 rfl (lv_at hl 2 rfl) ?_
                    refine zald hx hb hK hP 11 (n := 40) (f := (Mi 13)) rfl (i) rfl (by omega) (by decide) dX4_bounce_135 ?_
                    refine lv_iload_n hx hb dX4_bounce_136 rfl (lv_at hl 4 rfl) ?_
                    refine lv_icmp_ne (tgt := 154) hx hb dX4_bounce_137 (by decide) (fun c137 => ?_) (fun c137 => ?_)
                    · -- 137 taken
                      refine lv_iinc (v := nI (i + 1)) (lv' := [(3, .int (nI (i + 1))), (2, .int (nI (uu + 1))), (4, .int (nI (40 * rc + i))), (0, .ref (a 0)), (1, .int (nI (rc)))]) hx hb dX4_bounce_154 hl (k := 2) rfl (nI_1 _) (by decide) rfl (fun ls hl => ?_)
                      refine lv_goto (tgt := 48) hx hb dX4_bounce_157 (by decide) ?_
                      exact ih48 (i + 1) (uu + 1) ((pt (pt Mi 9 (i) ((Mi 9 (i)) - (Mi 21 (40 * rc + i)))) 21 (40 * rc + i) (0))) (by omega) hMi (by rw [hg, mbL, show (if Mi 22 (40 * rc + i) = 0 then uu else uu + 1) = uu + 1 from if_neg c72, mbs_eq (Or.inr ⟨c113, rfl⟩) (Or.inr ⟨c137, rfl⟩)]; rfl) (by omega) _ _ hP hD hS _ (lv_sub hl [0, 1, 3, 4] rfl)
                    · -- 137 on
                      refine lv_aload_n hx hb dX4_bounce_140 rfl (lv_at hl 3 rfl) ?_
                      refine va_get (D := D) (ci := 4) (v := .ref (a 10)) (C := RX4) (T := TX4) (N := 24) hx hb hts (fun w h => List.mem_cons_of_mem _ (List.mem_append_right _ h)) hown hK hP 0 rfl rfl 12 (by decide) (hts (.fieldLink RX4 37 "CashAllocatorModel" "disputedOf" "[I") (by decide +kernel)) (fun _ h9 => h9) rfl dX4_bounce_141 ?_
                      refine lv_iload_n hx hb dX4_bounce_144 rfl (lv_at hl 2 rfl) ?_
                      refine lv_iconst (v := 0) hx hb dX4_bounce_145 (by decide) ?_
                      refine zast hx hb hK hP hD hS 10 (n := 40) (f := (Mi 12)) rfl (i) rfl (by omega) (by decide) (wM a cI cZ (pt (pt (pt Mi 9 (i) ((Mi 9 (i)) - (Mi 21 (40 * rc + i)))) 21 (40 * rc + i) (0)) 12 (i) (0))) rfl dX4_bounce_146 (fun H locs hP hD hS => ?_)
                      refine lv_aload_n hx hb dX4_bounce_147 rfl (lv_at hl 3 rfl) ?_
                      refine va_get (D := D) (ci := 4) (v := .ref (a 11)) (C := RX4) (T := TX4) (N := 24) hx hb hts (fun w h => List.mem_cons_of_mem _ (List.mem_append_right _ h)) hown hK hP 0 rfl rfl 13 (by decide) (hts (.fieldLink RX4 40 "CashAllocatorModel" "raisers" "[I") (by decide +kernel)) (fun _ h9 => h9) rfl dX4_bounce_148 ?_
                      refine lv_iload_n hx hb dX4_bounce_151 rfl (lv_at hl 2 rfl) ?_
                      refine lv_iconst (v := (-1)) hx hb dX4_bounce_152 (by decide) ?_
                      refine zast hx hb hK hP hD hS 11 (n := 40) (f := (Mi 13)) rfl (i) rfl (by omega) (by decide) (wM a cI cZ (pt (pt (pt (pt Mi 9 (i) ((Mi 9 (i)) - (Mi 21 (40 * rc + i)))) 21 (40 * rc + i) (0)) 12 (i) (0)) 13 (i) ((-1)))) rfl dX4_bounce_153 (fun H locs hP hD hS => ?_)
                      refine lv_iinc (v := nI (i + 1)) (lv' := [(3, .int (nI (i + 1))), (2, .int (nI (uu + 1))), (4, .int (nI (40 * rc + i))), (0, .ref (a 0)), (1, .int (nI (rc)))]) hx hb dX4_bounce_154 hl (k := 2) rfl (nI_1 _) (by decide) rfl (fun ls hl => ?_)
                      refine lv_goto (tgt := 48) hx hb dX4_bounce_157 (by decide) ?_
                      exact ih48 (i + 1) (uu + 1) ((pt (pt (pt (pt Mi 9 (i) ((Mi 9 (i)) - (Mi 21 (40 * rc + i)))) 21 (40 * rc + i) (0)) 12 (i) (0)) 13 (i) ((-1)))) (by omega) hMi (by rw [hg, mbL, show (if Mi 22 (40 * rc + i) = 0 then uu else uu + 1) = uu + 1 from if_neg c72, mbs_eq (Or.inr ⟨c113, rfl⟩) (Or.inl ⟨c137, rfl⟩)]; rfl) (by omega) _ _ hP hD hS _ (lv_sub hl [0, 1, 3, 4] rfl)
                  · -- 113 on
                    refine lv_aload_n hx hb dX4_bounce_116 rfl (lv_at hl 3 rfl) ?_
                    refine va_get (D := D) (ci := 4) (v := .ref (a 8)) (C := RX4) (T := TX4) (N := 24) hx hb hts (fun w h => List.mem_cons_of_mem _ (List.mem_append_right _ h)) hown hK hP 0 rfl rfl 10 (by decide) (hts (.fieldLink RX4 31 "CashAllocatorModel" "takenOf" "[I") (by decide +kernel)) (fun _ h9 => h9) rfl dX4_bounce_117 ?_
                    refine lv_iload_n hx hb dX4_bounce_120 rfl (lv_at hl 2 rfl) ?_
                    refine lv_iconst (v := 0) hx hb dX4_bounce_121 (by decide) ?_
                    refine zast hx hb hK hP hD hS 8 (n := 40) (f := (Mi 10)) rfl (i) rfl (by omega) (by decide) (wM a cI cZ (pt (pt (pt Mi 9 (i) ((Mi 9 (i)) - (Mi 21 (40 * rc + i)))) 21 (40 * rc + i) (0)) 10 (i) (0))) rfl dX4_bounce_122 (fun H locs hP hD hS => ?_)
                    refine lv_aload_n hx hb dX4_bounce_123 rfl (lv_at hl 3 rfl) ?_
                    refine va_get (D := D) (ci := 4) (v := .ref (a 9)) (C := RX4) (T := TX4) (N := 24) hx hb hts (fun w h => List.mem_cons_of_mem _ (List.mem_append_right _ h)) hown hK hP 0 rfl rfl 11 (by decide) (hts (.fieldLink RX4 34 "CashAllocatorModel" "takers" "[I") (by decide +kernel)) (fun _ h9 => h9) rfl dX4_bounce_124 ?_
                    refine lv_iload_n hx hb dX4_bounce_127 rfl (lv_at hl 2 rfl) ?_
                    refine lv_iconst (v := (-1)) hx hb dX4_bounce_128 (by decide) ?_
                    refine zast hx hb hK hP hD hS 9 (n := 40) (f := (Mi 11)) rfl (i) rfl (by omega) (by decide) (wM a cI cZ (pt (pt (pt (pt Mi 9 (i) ((Mi 9 (i)) - (Mi 21 (40 * rc + i)))) 21 (40 * rc + i) (0)) 10 (i) (0)) 11 (i) ((-1)))) rfl dX4_bounce_129 (fun H locs hP hD hS => ?_)
                    refine lv_aload_n hx hb dX4_bounce_130 rfl (lv_at hl 3 rfl) ?_
                    refine va_get (D := D) (ci := 4) (v := .ref (a 11)) (C := RX4) (T := TX4) (N := 24) hx hb hts (fun w h => List.mem_cons_of_mem _ (List.mem_append_right _ h)) hown hK hP 0 rfl rfl 13 (by decide) (hts (.fieldLink RX4 40 "CashAllocatorModel" "raisers" "[I") (by decide +kernel)) (fun _ h9 => h9) rfl dX4_bounce_131 ?_
                    refine lv_iload_n hx hb dX4_bounce_134 rfl (lv_at hl 2 rfl) ?_
                    refine zald hx hb hK hP 11 (n := 40) (f := (Mi 13)) rfl (i) rfl (by omega) (by decide) dX4_bounce_135 ?_
                    refine lv_iload_n hx hb dX4_bounce_136 rfl (lv_at hl 4 rfl) ?_
                    refine lv_icmp_ne (tgt := 154) hx hb dX4_bounce_137 (by decide) (fun c137 => ?_) (fun c137 => ?_)
                    · -- 137 taken
                      refine lv_iinc (v := nI (i + 1)) (lv' := [(3, .int (nI (i + 1))), (2, .int (nI (uu + 1))), (4, .int (nI (40 * rc + i))), (0, .ref (a 0)), (1, .int (nI (rc)))]) hx hb dX4_bounce_154 hl (k := 2) rfl (nI_1 _) (by decide) rfl (fun ls hl => ?_)
                      refine lv_goto (tgt := 48) hx hb dX4_bounce_157 (by decide) ?_
                      exact ih48 (i + 1) (uu + 1) ((pt (pt (pt (pt Mi 9 (i) ((Mi 9 (i)) - (Mi 21 (40 * rc + i)))) 21 (40 * rc + i) (0)) 10 (i) (0)) 11 (i) ((-1)))) (by omega) hMi (by rw [hg, mbL, show (if Mi 22 (40 * rc + i) = 0 then uu else uu + 1) = uu + 1 from if_neg c72, mbs_eq (Or.inl ⟨c113, rfl⟩) (Or.inr ⟨c137, rfl⟩)]; rfl) (by omega) _ _ hP hD hS _ (lv_sub hl [0, 1, 3, 4] rfl)
                    · -- 137 on
                      refine lv_aload_n hx hb dX4_bounce_140 rfl (lv_at hl 3 rfl) ?_
                      refine va_get (D := D) (ci := 4) (v := .ref (a 10)) (C := RX4) (T := TX4) (N := 24) hx hb hts (fun w h => List.mem_cons_of_mem _ (List.mem_append_right _ h)) hown hK hP 0 rfl rfl 12 (by decide) (hts (.fieldLink RX4 37 "CashAllocatorModel" "disputedOf" "[I") (by decide +kernel)) (fun _ h9 => h9) rfl dX4_bounce_141 ?_
                      refine lv_iload_n hx hb dX4_bounce_144 rfl (lv_at hl 2 rfl) ?_
                      refine lv_iconst (v := 0) hx hb dX4_bounce_145 (by decide) ?_
                      refine zast hx hb hK hP hD hS 10 (n := 40) (f := (Mi 12)) rfl (i) rfl (by omega) (by decide) (wM a cI cZ (pt (pt (pt (pt (pt Mi 9 (i) ((Mi 9 (i)) - (Mi 21 (40 * rc + i)))) 21 (40 * rc + i) (0)) 10 (i) (0)) 11 (i) ((-1))) 12 (i) (0))) rfl dX4_bounce_146 (fun H locs hP hD hS => ?_)
                      refine lv_aload_n hx hb dX4_bounce_147 rfl (lv_at hl 3 rfl) ?_
                      refine va_get (D := D) (ci := 4) (v := .ref (a 11)) (C := RX4) (T := TX4) (N := 24) hx hb hts (fun w h => List.mem_cons_of_mem _ (List.mem_append_right _ h)) hown hK hP 0 rfl rfl 13 (by decide) (hts (.fieldLink RX4 40 "CashAllocatorModel" "raisers" "[I") (by decide +kernel)) (fun _ h9 => h9) rfl dX4_bounce_148 ?_
                      refine lv_iload_n hx hb dX4_bounce_151 rfl (lv_at hl 2 rfl) ?_
                      refine lv_iconst (v := (-1)) hx hb dX4_bounce_152 (by decide) ?_
                      refine zast hx hb hK hP hD hS 11 (n := 40) (f := (Mi 13)) rfl (i) rfl (by omega) (by decide) (wM a cI cZ (pt (pt (pt (pt (pt (pt Mi 9 (i) ((Mi 9 (i)) - (Mi 21 (40 * rc + i)))) 21 (40 * rc + i) (0)) 10 (i) (0)) 11 (i) ((-1))) 12 (i) (0)) 13 (i) ((-1)))) rfl dX4_bounce_153 (fun H locs hP hD hS => ?_)
                      refine lv_iinc (v := nI (i + 1)) (lv' := [(3, .int (nI (i + 1))), (2, .int (nI (uu + 1))), (4, .int (nI (40 * rc + i))), (0, .ref (a 0)), (1, .int (nI (rc)))]) hx hb dX4_bounce_154 hl (k := 2) rfl (nI_1 _) (by decide) rfl (fun ls hl => ?_)
                      refine lv_goto (tgt := 48) hx hb dX4_bounce_157 (by decide) ?_
                      exact ih48 (i + 1) (uu + 1) ((pt (pt (pt (pt (pt (pt Mi 9 (i) ((Mi 9 (i)) - (Mi 21 (40 * rc + i)))) 21 (40 * rc + i) (0)) 10 (i) (0)) 11 (i) ((-1))) 12 (i) (0)) 13 (i) ((-1)))) (by omega) hMi (by rw [hg, mbL, show (if Mi 22 (40 * rc + i) = 0 then uu else uu + 1) = uu + 1 from if_neg c72, mbs_eq (Or.inl ⟨c113, rfl⟩) (Or.inl ⟨c137, rfl⟩)]; rfl) (by omega) _ _ hP hD hS _ (lv_sub hl [0, 1, 3, 4] rfl)
          exact loop48 _ (0) (0) ((pt M 0 0 0)) (Nat.zero_le _) (hM) (rfl) (Nat.lt_succ_self _) _ _ hP hD hS _ (lv_sub hl [0, 1, 2, 3] rfl)
        · -- 39 on
          exact absurd c39 (by decide)
      · -- 28 on
        exact absurd h4 c28
  · -- 6 on
    have c6 := b2_0 c6
    exact absurd ⟨nI_pos (by omega), (nI_ltI (by omega) (by omega)).mpr hrq⟩ c6
set_option maxHeartbeats 4000000 in
set_option maxRecDepth 100000 in
theorem c_X4_bounce_k (l : Launch) (D : va_G) (cI cZ : ClassId) (a : Nat → Nat) (sz : Nat) (M : Nat → Nat → Int32) (q : Nat) (vx : Int32) (hMq : M 15 0 = nI q) (hq : q ≤ 30) (hk : ¬ bncK (mR M) vx = 0) : Met l yX4_bounce wsX4_bounce ({ frames := 2, cells := 0, slots := 0, locals := 43 } : Room) (va_Pc [.ref (a 0), .int (vx)] (PreW D cI cZ (wM a cI cZ M) sz)) (va_Qi (fun (r : Int32) (u : Nat → Nat → Int32) => r = 0 ∧ u = pt M 0 0 (nI (bncK (mR M) vx))) (fun (u : Nat → Nat → Int32) => PostW D cI cZ (va_A (wM a cI cZ M) sz) (wM a cI cZ u)) (va_A (wM a cI cZ M) sz)) 0 0 (va_A (wM a cI cZ M) sz) := by
  refine Met.ofW (cc := cX4_bounce) (maxL := 5) (ret := (some .int)) (by decide) rfl ?_
  intro p e s m args below meth c s₁ BB hml hv
  obtain ⟨rfl, hsz, hP, hK, hD0⟩ := hv
  have hx := BB.exec
  have hb := BB.bytes
  have hr := BB.returns
  have hts := atoms_spec (ws := wsX4_bounce) BB.pre
  have hown : s.vm.findClass RX4 = some m.cls := findClass_of_methodNamed BB.named
  have hlocks := BB.notSynchronized
  clear BB
  subst hsz
  have hD := hD0.self (sz := s.heap.size)
  clear hD0
  generalize hAe : va_A (wM a cI cZ M) s.heap.size = A at hD ⊢
  have hA : ∀ q : Nat, s.heap.size ≤ q → A q := fun q h => by rw [← hAe]; exact Or.inr h
  clear hAe
  have hS : va_S A s.heap s.heap [] := va_S.rf
  have hl := lv_entry ([.ref (a 0), .int (vx)]) (n := 5) (Nat.le_of_ble_eq_true rfl)
  rw [lg_entry_eq]
  generalize (lg_sl ([.ref (a 0), .int (vx)]) ++ List.replicate (5 - (lg_sl ([.ref (a 0), .int (vx)])).length) Slot.unset).toArray = ls at hl ⊢
  have hl : lv_has ls 5 [(0, .ref (a 0)), (1, .int (vx))] := hl
  generalize hHe : s.heap = H at hP
  have hS : va_S A s.heap H [] := by rw [← hHe]; exact va_S.rf
  clear hHe
  generalize hLe : ([] : List Loc) = locs at hS ⊢
  clear hLe
  refine lv_aload_n hx hb dX4_bounce_0 rfl (lv_at hl 0 rfl) ?_
  refine lv_aload_n hx hb dX4_bounce_1 rfl (lv_at hl 0 rfl) ?_
  refine lv_iload_n hx hb dX4_bounce_2 rfl (lv_at hl 1 rfl) ?_
  refine zcVi (ci := 4) (q0 := 0) (wf := (fun (u : Unit) => (wM a cI cZ M))) (List.range 21) ⟨hx, hb, hml, hown, hts⟩ (zwAll 21 (by decide) rfl hP hD hS hA) hK (c_X4_isReceipt l D cI cZ a H.size (M) (vx) (q) (by first | assumption | omega) (by first | assumption | omega)) (cwV 1 hts gX4_bounce_X4_isReceipt rfl rfl rfl (by decide +kernel) ⟨Nat.le_of_ble_eq_true rfl, Nat.le_of_ble_eq_true rfl⟩) rfl rfl (by decide) (fun _ => rfl) rfl hl.1 rfl (Nat.le_of_ble_eq_true rfl) dX4_bounce_3 ⟨Nat.le_of_ble_eq_true rfl, Nat.le_of_ble_eq_true rfl⟩ (fun r3 u H locs hw hP hD hS => ?_)
  subst hw
  refine lv_if_ne (tgt := 13) hx hb dX4_bounce_6 (by decide) (fun c6 => ?_) (fun c6 => ?_)
  · -- 6 taken
    have c6 := b2_1 c6
    obtain ⟨rc, hrq, ej⟩ := ix_of (n := q) (by omega) c6.1 c6.2
    subst ej
    have hcl : (nI rc).toNatClampNeg = rc := nI_clamp (by omega)
    refine lv_aload_n hx hb dX4_bounce_13 rfl (lv_at hl 0 rfl) ?_
    refine va_get (D := D) (ci := 4) (v := .ref (a 17)) (C := RX4) (T := TX4) (N := 24) hx hb hts (fun w h => List.mem_cons_of_mem _ (List.mem_append_right _ h)) hown hK hP 0 rfl rfl 20 (by decide) (hts (.fieldLink RX4 58 "CashAllocatorModel" "isBounced" "[Z") (by decide +kernel)) (fun _ h9 => h9) rfl dX4_bounce_14 ?_
    refine lv_iload_n hx hb dX4_bounce_17 rfl (lv_at hl 1 rfl) ?_
    refine zbld hx hb hK hP 17 (n := 30) (f := (M 20)) rfl (rc) rfl (by omega) (by decide) dX4_bounce_18 ?_
    refine lv_if_ne (tgt := 31) hx hb dX4_bounce_19 (by decide) (fun c19 => ?_) (fun c19 => ?_)
    · -- 19 taken
      refine lv_iconst (v := 2) hx hb dX4_bounce_31 (by decide) ?_
      refine lv_goto (tgt := 36) hx hb dX4_bounce_32 (by decide) ?_
      refine zcVi (ci := 4) (q0 := 0) (wf := (fun (u : Nat → Nat → Int32) => (wM a cI cZ u))) (List.range 21) ⟨hx, hb, hml, hown, hts⟩ (zwAll 21 (by decide) rfl hP hD hS hA) hK (c_X4_refused_k l D cI cZ a H.size (M) (2) (by first | rfl | decide)) (cwV 1 hts gX4_bounce_X4_refused rfl rfl rfl (by decide +kernel) ⟨Nat.le_of_ble_eq_true rfl, Nat.le_of_ble_eq_true rfl⟩) rfl rfl (by decide) (fun _ => rfl) rfl hl.1 rfl (Nat.le_of_ble_eq_true rfl) dX4_bounce_36 ⟨Nat.le_of_ble_eq_true rfl, Nat.le_of_ble_eq_true rfl⟩ (fun r36 u H locs hw hP hD hS => ?_)
      obtain ⟨rfl, rfl⟩ := hw
      have hP : va_P D vwCl (wM a cI cZ (pt (M) 0 0 (2))) H := hP
      have hD : va_D A (wM a cI cZ (pt (M) 0 0 (2))) := hD
      refine lv_if_eq (tgt := 44) hx hb dX4_bounce_39 (by decide) (fun c39 => ?_) (fun c39 => ?_)
      · -- 39 taken
        exact absurd c39 (by decide)
      · -- 39 on
        refine lv_iconst (v := 0) hx hb dX4_bounce_42 (by decide) ?_
        exact W.iret (v := 0) hx hb hr (fun t ht hW => ⟨⟨0, (pt (M) 0 0 (2)), rfl, ⟨rfl, by rw [bncK_2 (by rw [show mR M 8 0 = nI q from hMq]; exact dn ⟨nI_pos (by omega), (nI_ltI (by omega) (by omega)).mpr hrq⟩) (by rw [hcl]; exact Or.inl c19)]; rfl⟩, by rw [ht]; exact hP, va_K.moved hW.alike hK, hD⟩, hS.F ht⟩) hS.2.2 dX4_bounce_43
    · -- 19 on
      refine lv_aload_n hx hb dX4_bounce_22 rfl (lv_at hl 0 rfl) ?_
      refine va_get (D := D) (ci := 4) (v := .ref (a 16)) (C := RX4) (T := TX4) (N := 24) hx hb hts (fun w h => List.mem_cons_of_mem _ (List.mem_append_right _ h)) hown hK hP 0 rfl rfl 19 (by decide) (hts (.fieldLink RX4 55 "CashAllocatorModel" "backs" "[I") (by decide +kernel)) (fun _ h9 => h9) rfl dX4_bounce_23 ?_
      refine lv_iload_n hx hb dX4_bounce_26 rfl (lv_at hl 1 rfl) ?_
      refine zald hx hb hK hP 16 (n := 30) (f := (M 19)) rfl (rc) rfl (by omega) (by decide) dX4_bounce_27 ?_
      refine lv_if_le (tgt := 35) hx hb dX4_bounce_28 (by decide) (fun c28 => ?_) (fun c28 => ?_)
      · -- 28 taken
        refine lv_iconst (v := 0) hx hb dX4_bounce_35 (by decide) ?_
        refine zcVi (ci := 4) (q0 := 0) (wf := (fun (u : Nat → Nat → Int32) => (wM a cI cZ u))) (List.range 21) ⟨hx, hb, hml, hown, hts⟩ (zwAll 21 (by decide) rfl hP hD hS hA) hK (c_X4_refused_0 l D cI cZ a H.size (M) (0) (by first | rfl | decide)) (cwV 1 hts gX4_bounce_X4_refused rfl rfl rfl (by decide +kernel) ⟨Nat.le_of_ble_eq_true rfl, Nat.le_of_ble_eq_true rfl⟩) rfl rfl (by decide) (fun _ => rfl) rfl hl.1 rfl (Nat.le_of_ble_eq_true rfl) dX4_bounce_36 ⟨Nat.le_of_ble_eq_true rfl, Nat.le_of_ble_eq_true rfl⟩ (fun r36 u H locs hw hP hD hS => ?_)
        obtain ⟨rfl, rfl⟩ := hw
        have hP : va_P D vwCl (wM a cI cZ (pt (M) 0 0 0)) H := hP
        have hD : va_D A (wM a cI cZ (pt (M) 0 0 0)) := hD
        refine lv_if_eq (tgt := 44) hx hb dX4_bounce_39 (by decide) (fun c39 => ?_) (fun c39 => ?_)
        · -- 39 taken
          exact absurd (bncK_0 (by rw [show mR M 8 0 = nI q from hMq]; exact dn ⟨nI_pos (by omega), (nI_ltI (by omega) (by omega)).mpr hrq⟩) (by rw [hcl]; exact fun z => z.elim (fun w => w c19) (fun w => w c28))) hk
        · -- 39 on
          exact absurd c39 (by decide)
      · -- 28 on
        refine lv_iconst (v := 2) hx hb dX4_bounce_31 (by decide) ?_
        refine lv_goto (tgt := 36) hx hb dX4_bounce_32 (by decide) ?_
        refine zcVi (ci := 4) (q0 := 0) (wf := (fun (u : Nat → Nat → Int32) => (wM a cI cZ u))) (List.range 21) ⟨hx, hb, hml, hown, hts⟩ (zwAll 21 (by decide) rfl hP hD hS hA) hK (c_X4_refused_k l D cI cZ a H.size (M) (2) (by first | rfl | decide)) (cwV 1 hts gX4_bounce_X4_refused rfl rfl rfl (by decide +kernel) ⟨Nat.le_of_ble_eq_true rfl, Nat.le_of_ble_eq_true rfl⟩) rfl rfl (by decide) (fun _ => rfl) rfl hl.1 rfl (Nat.le_of_ble_eq_true rfl) dX4_bounce_36 ⟨Nat.le_of_ble_eq_true rfl, Nat.le_of_ble_eq_true rfl⟩ (fun r36 u H locs hw hP hD hS => ?_)
        obtain ⟨rfl, rfl⟩ := hw
        have hP : va_P D vwCl (wM a cI cZ (pt (M) 0 0 (2))) H := hP
        have hD : va_D A (wM a cI cZ (pt (M) 0 0 (2))) := hD
        refine lv_if_eq (tgt := 44) hx hb dX4_bounce_39 (by decide) (fun c39 => ?_) (fun c39 => ?_)
        · -- 39 taken
          exact absurd c39 (by decide)
        · -- 39 on
          refine lv_iconst (v := 0) hx hb dX4_bounce_42 (by decide) ?_
          exact W.iret (v := 0) hx hb hr (fun t ht hW => ⟨⟨0, (pt (M) 0 0 (2)), rfl, ⟨rfl, by rw [bncK_2 (by rw [show mR M 8 0 = nI q from hMq]; exact dn ⟨nI_pos (by omega), (nI_ltI (by omega) (by omega)).mpr hrq⟩) (by rw [hcl]; exact Or.inr c28)]; rfl⟩, by rw [ht]; exact hP, va_K.moved hW.alike hK, hD⟩, hS.F ht⟩) hS.2.2 dX4_bounce_43
  · -- 6 on
    have c6 := b2_0 c6
    refine lv_iconst (v := 1) hx hb dX4_bounce_9 (by decide) ?_
    refine lv_goto (tgt := 36) hx hb dX4_bounce_10 (by decide) ?_
    refine zcVi (ci := 4) (q0 := 0) (wf := (fun (u : Nat → Nat → Int32) => (wM a cI cZ u))) (List.range 21) ⟨hx, hb, hml, hown, hts⟩ (zwAll 21 (by decide) rfl hP hD hS hA) hK (c_X4_refused_k l D cI cZ a H.size (M) (1) (by first | rfl | decide)) (cwV 1 hts gX4_bounce_X4_refused rfl rfl rfl (by decide +kernel) ⟨Nat.le_of_ble_eq_true rfl, Nat.le_of_ble_eq_true rfl⟩) rfl rfl (by decide) (fun _ => rfl) rfl hl.1 rfl (Nat.le_of_ble_eq_true rfl) dX4_bounce_36 ⟨Nat.le_of_ble_eq_true rfl, Nat.le_of_ble_eq_true rfl⟩ (fun r36 u H locs hw hP hD hS => ?_)
    obtain ⟨rfl, rfl⟩ := hw
    have hP : va_P D vwCl (wM a cI cZ (pt (M) 0 0 (1))) H := hP
    have hD : va_D A (wM a cI cZ (pt (M) 0 0 (1))) := hD
    refine lv_if_eq (tgt := 44) hx hb dX4_bounce_39 (by decide) (fun c39 => ?_) (fun c39 => ?_)
    · -- 39 taken
      exact absurd c39 (by decide)
    · -- 39 on
      refine lv_iconst (v := 0) hx hb dX4_bounce_42 (by decide) ?_
      exact W.iret (v := 0) hx hb hr (fun t ht hW => ⟨⟨0, (pt (M) 0 0 (1)), rfl, ⟨rfl, by rw [show bncK (mR M) vx = 1 from if_pos (by rw [show mR M 8 0 = nI q from hMq]; exact dp c6)]; rfl⟩, by rw [ht]; exact hP, va_K.moved hW.alike hK, hD⟩, hS.F ht⟩) hS.2.2 dX4_bounce_43
set_option maxHeartbeats 4000000 in
set_option maxRecDepth 100000 in
theorem c_X4_settle_0 (l : Launch) (D : va_G) (cI cZ : ClassId) (a : Nat → Nat) (sz : Nat) (M : Nat → Nat → Int32) (n : Nat) (i : Nat) (zz : Int32) (hM : M 2 0 = nI n) (hn : n ≤ 40) (hbn : i < n) (h8 : ¬ M 12 i = 0) : Met l yX4_settle wsX4_settle ({ frames := 2, cells := 0, slots := 0, locals := 43 } : Room) (va_Pc [.ref (a 0), .int (nI (i)), .int (zz)] (PreW D cI cZ (wM a cI cZ M) sz)) (va_Qi (fun (r : Int32) (u : Nat → Nat → Int32) => r = M 12 i ∧ u = mstl M i zz) (fun (u : Nat → Nat → Int32) => PostW D cI cZ (va_A (wM a cI cZ M) sz) (wM a cI cZ u)) (va_A (wM a cI cZ M) sz)) 0 0 (va_A (wM a cI cZ M) sz) := by
  refine Met.ofW (cc := cX4_settle) (maxL := 4) (ret := (some .int)) (by decide) rfl ?_
  intro p e s m args below meth c s₁ BB hml hv
  obtain ⟨rfl, hsz, hP, hK, hD0⟩ := hv
  have hx := BB.exec
  have hb := BB.bytes
  have hr := BB.returns
  have hts := atoms_spec (ws := wsX4_settle) BB.pre
  have hown : s.vm.findClass RX4 = some m.cls := findClass_of_methodNamed BB.named
  have hlocks := BB.notSynchronized
  clear BB
  subst hsz
  have hD := hD0.self (sz := s.heap.size)
  clear hD0
  generalize hAe : va_A (wM a cI cZ M) s.heap.size = A at hD ⊢
  have hA : ∀ q : Nat, s.heap.size ≤ q → A q := fun q h => by rw [← hAe]; exact Or.inr h
  clear hAe
  have hS : va_S A s.heap s.heap [] := va_S.rf
  have hl := lv_entry ([.ref (a 0), .int (nI (i)), .int (zz)]) (n := 4) (Nat.le_of_ble_eq_true rfl)
  rw [lg_entry_eq]
  generalize (lg_sl ([.ref (a 0), .int (nI (i)), .int (zz)]) ++ List.replicate (4 - (lg_sl ([.ref (a 0), .int (nI (i)), .int (zz)])).length) Slot.unset).toArray = ls at hl ⊢
  have hl : lv_has ls 4 [(0, .ref (a 0)), (1, .int (nI (i))), (2, .int (zz))] := hl
  generalize hHe : s.heap = H at hP
  have hS : va_S A s.heap H [] := by rw [← hHe]; exact va_S.rf
  clear hHe
  generalize hLe : ([] : List Loc) = locs at hS ⊢
  clear hLe
  refine lv_aload_n hx hb dX4_settle_0 rfl (lv_at hl 0 rfl) ?_
  refine lv_aload_n hx hb dX4_settle_1 rfl (lv_at hl 0 rfl) ?_
  refine lv_iload_n hx hb dX4_settle_2 rfl (lv_at hl 1 rfl) ?_
  refine zcVi (ci := 4) (q0 := 0) (wf := (fun (u : Unit) => (wM a cI cZ M))) (List.range 21) ⟨hx, hb, hml, hown, hts⟩ (zwAll 21 (by decide) rfl hP hD hS hA) hK (c_X4_isBill l D cI cZ a H.size (M) (nI (i)) (n) (by first | assumption | omega) (by first | assumption | omega)) (cwV 1 hts gX4_settle_X4_isBill rfl rfl rfl (by decide +kernel) ⟨Nat.le_of_ble_eq_true rfl, Nat.le_of_ble_eq_true rfl⟩) rfl rfl (by decide) (fun _ => rfl) rfl hl.1 rfl (Nat.le_of_ble_eq_true rfl) dX4_settle_3 ⟨Nat.le_of_ble_eq_true rfl, Nat.le_of_ble_eq_true rfl⟩ (fun r3 u H locs hw hP hD hS => ?_)
  subst hw
  refine lv_if_ne (tgt := 13) hx hb dX4_settle_6 (by decide) (fun c6 => ?_) (fun c6 => ?_)
  · -- 6 taken
    have c6 := b2_1 c6
    refine lv_aload_n hx hb dX4_settle_13 rfl (lv_at hl 0 rfl) ?_
    refine va_get (D := D) (ci := 4) (v := .ref (a 10)) (C := RX4) (T := TX4) (N := 24) hx hb hts (fun w h => List.mem_cons_of_mem _ (List.mem_append_right _ h)) hown hK hP 0 rfl rfl 12 (by decide) (hts (.fieldLink RX4 37 "CashAllocatorModel" "disputedOf" "[I") (by decide +kernel)) (fun _ h9 => h9) rfl dX4_settle_14 ?_
    refine lv_iload_n hx hb dX4_settle_17 rfl (lv_at hl 1 rfl) ?_
    refine zald hx hb hK hP 10 (n := 40) (f := (M 12)) rfl (i) rfl (by omega) (by decide) dX4_settle_18 ?_
    refine lv_if_ne (tgt := 26) hx hb dX4_settle_19 (by decide) (fun c19 => ?_) (fun c19 => ?_)
    · -- 19 taken
      refine lv_iconst (v := 0) hx hb dX4_settle_26 (by decide) ?_
      refine zcVi (ci := 4) (q0 := 0) (wf := (fun (u : Nat → Nat → Int32) => (wM a cI cZ u))) (List.range 21) ⟨hx, hb, hml, hown, hts⟩ (zwAll 21 (by decide) rfl hP hD hS hA) hK (c_X4_refused_0 l D cI cZ a H.size (M) (0) (by first | rfl | decide)) (cwV 1 hts gX4_settle_X4_refused rfl rfl rfl (by decide +kernel) ⟨Nat.le_of_ble_eq_true rfl, Nat.le_of_ble_eq_true rfl⟩) rfl rfl (by decide) (fun _ => rfl) rfl hl.1 rfl (Nat.le_of_ble_eq_true rfl) dX4_settle_27 ⟨Nat.le_of_ble_eq_true rfl, Nat.le_of_ble_eq_true rfl⟩ (fun r27 u H locs hw hP hD hS => ?_)
      obtain ⟨rfl, rfl⟩ := hw
      have hP : va_P D vwCl (wM a cI cZ (pt (M) 0 0 0)) H := hP
      have hD : va_D A (wM a cI cZ (pt (M) 0 0 0)) := hD
      refine lv_if_eq (tgt := 35) hx hb dX4_settle_30 (by decide) (fun c30 => ?_) (fun c30 => ?_)
      · -- 30 taken
        refine lv_aload_n hx hb dX4_settle_35 rfl (lv_at hl 0 rfl) ?_
        refine va_get (D := D) (ci := 4) (v := .ref (a 10)) (C := RX4) (T := TX4) (N := 24) hx hb hts (fun w h => List.mem_cons_of_mem _ (List.mem_append_right _ h)) hown hK hP 0 rfl rfl 12 (by decide) (hts (.fieldLink RX4 37 "CashAllocatorModel" "disputedOf" "[I") (by decide +kernel)) (fun _ h9 => h9) rfl dX4_settle_36 ?_
        refine lv_iload_n hx hb dX4_settle_39 rfl (lv_at hl 1 rfl) ?_
        refine zald hx hb hK hP 10 (n := 40) (f := ((pt (M) 0 0 0) 12)) rfl (i) rfl (by omega) (by decide) dX4_settle_40 ?_
        refine lv_istore_n (lv' := [(3, .int ((pt (M) 0 0 0) 12 (i))), (0, .ref (a 0)), (1, .int (nI (i))), (2, .int (zz))]) hx hb dX4_settle_41 rfl hl (by decide) rfl (fun ls hl => ?_)
        refine lv_aload_n hx hb dX4_settle_42 rfl (lv_at hl 1 rfl) ?_
        refine va_get (D := D) (ci := 4) (v := .ref (a 12)) (C := RX4) (T := TX4) (N := 24) hx hb hts (fun w h => List.mem_cons_of_mem _ (List.mem_append_right _ h)) hown hK hP 0 rfl rfl 14 (by decide) (hts (.fieldLink RX4 43 "CashAllocatorModel" "writtenOf" "[I") (by decide +kernel)) (fun _ h9 => h9) rfl dX4_settle_43 ?_
        refine lv_iload_n hx hb dX4_settle_46 rfl (lv_at hl 2 rfl) ?_
        refine lv_dup2_11 hx hb dX4_settle_47 rfl rfl ?_
        refine zald hx hb hK hP 12 (n := 40) (f := ((pt (M) 0 0 0) 14)) rfl (i) rfl (by omega) (by decide) dX4_settle_48 ?_
        refine lv_iload_n hx hb dX4_settle_49 rfl (lv_at hl 3 rfl) ?_
        refine lv_if_eq (tgt := 57) hx hb dX4_settle_50 (by decide) (fun c50 => ?_) (fun c50 => ?_)
        · -- 50 taken
          refine lv_iconst (v := 0) hx hb dX4_settle_57 (by decide) ?_
          refine lv_iadd hx hb dX4_settle_58 ?_
          refine zast hx hb hK hP hD hS 12 (n := 40) (f := ((pt (M) 0 0 0) 14)) rfl (i) rfl (by omega) (by decide) (wM a cI cZ (pt (pt (M) 0 0 0) 14 (i) (((pt (M) 0 0 0) 14 (i)) + (0)))) rfl dX4_settle_59 (fun H locs hP hD hS => ?_)
          refine lv_aload_n hx hb dX4_settle_60 rfl (lv_at hl 1 rfl) ?_
          refine va_get (D := D) (ci := 4) (v := .ref (a 10)) (C := RX4) (T := TX4) (N := 24) hx hb hts (fun w h => List.mem_cons_of_mem _ (List.mem_append_right _ h)) hown hK hP 0 rfl rfl 12 (by decide) (hts (.fieldLink RX4 37 "CashAllocatorModel" "disputedOf" "[I") (by decide +kernel)) (fun _ h9 => h9) rfl dX4_settle_61 ?_
          refine lv_iload_n hx hb dX4_settle_64 rfl (lv_at hl 2 rfl) ?_
          refine lv_iconst (v := 0) hx hb dX4_settle_65 (by decide) ?_
          refine zast hx hb hK hP hD hS 10 (n := 40) (f := ((pt (M) 0 0 0) 12)) rfl (i) rfl (by omega) (by decide) (wM a cI cZ (pt (pt (pt (M) 0 0 0) 14 (i) (((pt (M) 0 0 0) 14 (i)) + (0))) 12 (i) (0))) rfl dX4_settle_66 (fun H locs hP hD hS => ?_)
          refine lv_aload_n hx hb dX4_settle_67 rfl (lv_at hl 1 rfl) ?_
          refine va_get (D := D) (ci := 4) (v := .ref (a 11)) (C := RX4) (T := TX4) (N := 24) hx hb hts (fun w h => List.mem_cons_of_mem _ (List.mem_append_right _ h)) hown hK hP 0 rfl rfl 13 (by decide) (hts (.fieldLink RX4 40 "CashAllocatorModel" "raisers" "[I") (by decide +kernel)) (fun _ h9 => h9) rfl dX4_settle_68 ?_
          refine lv_iload_n hx hb dX4_settle_71 rfl (lv_at hl 2 rfl) ?_
          refine lv_iconst (v := (-1)) hx hb dX4_settle_72 (by decide) ?_
          refine zast hx hb hK hP hD hS 11 (n := 40) (f := ((pt (M) 0 0 0) 13)) rfl (i) rfl (by omega) (by decide) (wM a cI cZ (pt (pt (pt (pt (M) 0 0 0) 14 (i) (((pt (M) 0 0 0) 14 (i)) + (0))) 12 (i) (0)) 13 (i) ((-1)))) rfl dX4_settle_73 (fun H locs hP hD hS => ?_)
          refine lv_iload_n hx hb dX4_settle_74 rfl (lv_at hl 0 rfl) ?_
          exact W.iret (v := (pt (M) 0 0 0) 12 (i)) hx hb hr (fun t ht hW => ⟨⟨(pt (M) 0 0 0) 12 (i), (pt (pt (pt (pt (M) 0 0 0) 14 (i) (((pt (M) 0 0 0) 14 (i)) + (0))) 12 (i) (0)) 13 (i) ((-1))), rfl, ⟨rfl, by unfold mstl; rw [if_pos c50]; rfl⟩, by rw [ht]; exact hP, va_K.moved hW.alike hK, hD⟩, hS.F ht⟩) hS.2.2 dX4_settle_75
        · -- 50 on
          refine lv_iload_n hx hb dX4_settle_53 rfl (lv_at hl 0 rfl) ?_
          refine lv_goto (tgt := 58) hx hb dX4_settle_54 (by decide) ?_
          refine lv_iadd hx hb dX4_settle_58 ?_
          refine zast hx hb hK hP hD hS 12 (n := 40) (f := ((pt (M) 0 0 0) 14)) rfl (i) rfl (by omega) (by decide) (wM a cI cZ (pt (pt (M) 0 0 0) 14 (i) (((pt (M) 0 0 0) 14 (i)) + ((pt (M) 0 0 0) 12 (i))))) rfl dX4_settle_59 (fun H locs hP hD hS => ?_)
          refine lv_aload_n hx hb dX4_settle_60 rfl (lv_at hl 1 rfl) ?_
          refine va_get (D := D) (ci := 4) (v := .ref (a 10)) (C := RX4) (T := TX4) (N := 24) hx hb hts (fun w h => List.mem_cons_of_mem _ (List.mem_append_right _ h)) hown hK hP 0 rfl rfl 12 (by decide) (hts (.fieldLink RX4 37 "CashAllocatorModel" "disputedOf" "[I") (by decide +kernel)) (fun _ h9 => h9) rfl dX4_settle_61 ?_
          refine lv_iload_n hx hb dX4_settle_64 rfl (lv_at hl 2 rfl) ?_
          refine lv_iconst (v := 0) hx hb dX4_settle_65 (by decide) ?_
          refine zast hx hb hK hP hD hS 10 (n := 40) (f := ((pt (M) 0 0 0) 12)) rfl (i) rfl (by omega) (by decide) (wM a cI cZ (pt (pt (pt (M) 0 0 0) 14 (i) (((pt (M) 0 0 0) 14 (i)) + ((pt (M) 0 0 0) 12 (i)))) 12 (i) (0))) rfl dX4_settle_66 (fun H locs hP hD hS => ?_)
          refine lv_aload_n hx hb dX4_settle_67 rfl (lv_at hl 1 rfl) ?_
          refine va_get (D := D) (ci := 4) (v := .ref (a 11)) (C := RX4) (T := TX4) (N := 24) hx hb hts (fun w h => List.mem_cons_of_mem _ (List.mem_append_right _ h)) hown hK hP 0 rfl rfl 13 (by decide) (hts (.fieldLink RX4 40 "CashAllocatorModel" "raisers" "[I") (by decide +kernel)) (fun _ h9 => h9) rfl dX4_settle_68 ?_
          refine lv_iload_n hx hb dX4_settle_71 rfl (lv_at hl 2 rfl) ?_
          refine lv_iconst (v := (-1)) hx hb dX4_settle_72 (by decide) ?_
          refine zast hx hb hK hP hD hS 11 (n := 40) (f := ((pt (M) 0 0 0) 13)) rfl (i) rfl (by omega) (by decide) (wM a cI cZ (pt (pt (pt (pt (M) 0 0 0) 14 (i) (((pt (M) 0 0 0) 14 (i)) + ((pt (M) 0 0 0) 12 (i)))) 12 (i) (0)) 13 (i) ((-1)))) rfl dX4_settle_73 (fun H locs hP hD hS => ?_)
          refine lv_iload_n hx hb dX4_settle_74 rfl (lv_at hl 0 rfl) ?_
          exact W.iret (v := (pt (M) 0 0 0) 12 (i)) hx hb hr (fun t ht hW => ⟨⟨(pt (M) 0 0 0) 12 (i), (pt (pt (pt (pt (M) 0 0 0) 14 (i) (((pt (M) 0 0 0) 14 (i)) + ((pt (M) 0 0 0) 12 (i)))) 12 (i) (0)) 13 (i) ((-1))), rfl, ⟨rfl, by unfold mstl; rw [if_neg c50]; rfl⟩, by rw [ht]; exact hP, va_K.moved hW.alike hK, hD⟩, hS.F ht⟩) hS.2.2 dX4_settle_75
      · -- 30 on
        exact absurd c30 (by decide)
    · -- 19 on
      exact absurd c19 h8
  · -- 6 on
    have c6 := b2_0 c6
    exact absurd ⟨nI_pos (by omega), (nI_ltI (by omega) (by omega)).mpr hbn⟩ c6
set_option maxHeartbeats 4000000 in
set_option maxRecDepth 100000 in
theorem c_X4_settle_k (l : Launch) (D : va_G) (cI cZ : ClassId) (a : Nat → Nat) (sz : Nat) (M : Nat → Nat → Int32) (n : Nat) (vx : Int32) (zz : Int32) (hM : M 2 0 = nI n) (hn : n ≤ 40) (hk : ¬ stlK (mB M) vx = 0) : Met l yX4_settle wsX4_settle ({ frames := 2, cells := 0, slots := 0, locals := 43 } : Room) (va_Pc [.ref (a 0), .int (vx), .int (zz)] (PreW D cI cZ (wM a cI cZ M) sz)) (va_Qi (fun (r : Int32) (u : Nat → Nat → Int32) => r = 0 ∧ u = pt M 0 0 (nI (stlK (mB M) vx))) (fun (u : Nat → Nat → Int32) => PostW D cI cZ (va_A (wM a cI cZ M) sz) (wM a cI cZ u)) (va_A (wM a cI cZ M) sz)) 0 0 (va_A (wM a cI cZ M) sz) := by
  refine Met.ofW (cc := cX4_settle) (maxL := 4) (ret := (some .int)) (by decide) rfl ?_
  intro p e s m args below meth c s₁ BB hml hv
  obtain ⟨rfl, hsz, hP, hK, hD0⟩ := hv
  have hx := BB.exec
  have hb := BB.bytes
  have hr := BB.returns
  have hts := atoms_spec (ws := wsX4_settle) BB.pre
  have hown : s.vm.findClass RX4 = some m.cls := findClass_of_methodNamed BB.named
  have hlocks := BB.notSynchronized
  clear BB
  subst hsz
  have hD := hD0.self (sz := s.heap.size)
  clear hD0
  generalize hAe : va_A (wM a cI cZ M) s.heap.size = A at hD ⊢
  have hA : ∀ q : Nat, s.heap.size ≤ q → A q := fun q h => by rw [← hAe]; exact Or.inr h
  clear hAe
  have hS : va_S A s.heap s.heap [] := va_S.rf
  have hl := lv_entry ([.ref (a 0), .int (vx), .int (zz)]) (n := 4) (Nat.le_of_ble_eq_true rfl)
  rw [lg_entry_eq]
  generalize (lg_sl ([.ref (a 0), .int (vx), .int (zz)]) ++ List.replicate (4 - (lg_sl ([.ref (a 0), .int (vx), .int (zz)])).length) Slot.unset).toArray = ls at hl ⊢
  have hl : lv_has ls 4 [(0, .ref (a 0)), (1, .int (vx)), (2, .int (zz))] := hl
  generalize hHe : s.heap = H at hP
  have hS : va_S A s.heap H [] := by rw [← hHe]; exact va_S.rf
  clear hHe
  generalize hLe : ([] : List Loc) = locs at hS ⊢
  clear hLe
  refine lv_aload_n hx hb dX4_settle_0 rfl (lv_at hl 0 rfl) ?_
  refine lv_aload_n hx hb dX4_settle_1 rfl (lv_at hl 0 rfl) ?_
  refine lv_iload_n hx hb dX4_settle_2 rfl (lv_at hl 1 rfl) ?_
  refine zcVi (ci := 4) (q0 := 0) (wf := (fun (u : Unit) => (wM a cI cZ M))) (List.range 21) ⟨hx, hb, hml, hown, hts⟩ (zwAll 21 (by decide) rfl hP hD hS hA) hK (c_X4_isBill l D cI cZ a H.size (M) (vx) (n) (by first | assumption | omega) (by first | assumption | omega)) (cwV 1 hts gX4_settle_X4_isBill rfl rfl rfl (by decide +kernel) ⟨Nat.le_of_ble_eq_true rfl, Nat.le_of_ble_eq_true rfl⟩) rfl rfl (by decide) (fun _ => rfl) rfl hl.1 rfl (Nat.le_of_ble_eq_true rfl) dX4_settle_3 ⟨Nat.le_of_ble_eq_true rfl, Nat.le_of_ble_eq_true rfl⟩ (fun r3 u H locs hw hP hD hS => ?_)
  subst hw
  refine lv_if_ne (tgt := 13) hx hb dX4_settle_6 (by decide) (fun c6 => ?_) (fun c6 => ?_)
  · -- 6 taken
    have c6 := b2_1 c6
    obtain ⟨i, hbn, ej⟩ := ix_of (n := n) (by omega) c6.1 c6.2
    subst ej
    have hcl : (nI i).toNatClampNeg = i := nI_clamp (by omega)
    refine lv_aload_n hx hb dX4_settle_13 rfl (lv_at hl 0 rfl) ?_
    refine va_get (D := D) (ci := 4) (v := .ref (a 10)) (C := RX4) (T := TX4) (N := 24) hx hb hts (fun w h => List.mem_cons_of_mem _ (List.mem_append_right _ h)) hown hK hP 0 rfl rfl 12 (by decide) (hts (.fieldLink RX4 37 "CashAllocatorModel" "disputedOf" "[I") (by decide +kernel)) (fun _ h9 => h9) rfl dX4_settle_14 ?_
    refine lv_iload_n hx hb dX4_settle_17 rfl (lv_at hl 1 rfl) ?_
    refine zald hx hb hK hP 10 (n := 40) (f := (M 12)) rfl (i) rfl (by omega) (by decide) dX4_settle_18 ?_
    refine lv_if_ne (tgt := 26) hx hb dX4_settle_19 (by decide) (fun c19 => ?_) (fun c19 => ?_)
    · -- 19 taken
      refine lv_iconst (v := 0) hx hb dX4_settle_26 (by decide) ?_
      refine zcVi (ci := 4) (q0 := 0) (wf := (fun (u : Nat → Nat → Int32) => (wM a cI cZ u))) (List.range 21) ⟨hx, hb, hml, hown, hts⟩ (zwAll 21 (by decide) rfl hP hD hS hA) hK (c_X4_refused_0 l D cI cZ a H.size (M) (0) (by first | rfl | decide)) (cwV 1 hts gX4_settle_X4_refused rfl rfl rfl (by decide +kernel) ⟨Nat.le_of_ble_eq_true rfl, Nat.le_of_ble_eq_true rfl⟩) rfl rfl (by decide) (fun _ => rfl) rfl hl.1 rfl (Nat.le_of_ble_eq_true rfl) dX4_settle_27 ⟨Nat.le_of_ble_eq_true rfl, Nat.le_of_ble_eq_true rfl⟩ (fun r27 u H locs hw hP hD hS => ?_)
      obtain ⟨rfl, rfl⟩ := hw
      have hP : va_P D vwCl (wM a cI cZ (pt (M) 0 0 0)) H := hP
      have hD : va_D A (wM a cI cZ (pt (M) 0 0 0)) := hD
      refine lv_if_eq (tgt := 35) hx hb dX4_settle_30 (by decide) (fun c30 => ?_) (fun c30 => ?_)
      · -- 30 taken
        exact absurd (stlK_0 (by rw [show mB M 11 0 = nI n from hM]; exact dn ⟨nI_pos (by omega), (nI_ltI (by omega) (by omega)).mpr hbn⟩) (by rw [hcl]; exact c19)) hk
      · -- 30 on
        exact absurd c30 (by decide)
    · -- 19 on
      refine lv_iconst (v := 2) hx hb dX4_settle_22 (by decide) ?_
      refine lv_goto (tgt := 27) hx hb dX4_settle_23 (by decide) ?_
      refine zcVi (ci := 4) (q0 := 0) (wf := (fun (u : Nat → Nat → Int32) => (wM a cI cZ u))) (List.range 21) ⟨hx, hb, hml, hown, hts⟩ (zwAll 21 (by decide) rfl hP hD hS hA) hK (c_X4_refused_k l D cI cZ a H.size (M) (2) (by first | rfl | decide)) (cwV 1 hts gX4_settle_X4_refused rfl rfl rfl (by decide +kernel) ⟨Nat.le_of_ble_eq_true rfl, Nat.le_of_ble_eq_true rfl⟩) rfl rfl (by decide) (fun _ => rfl) rfl hl.1 rfl (Nat.le_of_ble_eq_true rfl) dX4_settle_27 ⟨Nat.le_of_ble_eq_true rfl, Nat.le_of_ble_eq_true rfl⟩ (fun r27 u H locs hw hP hD hS => ?_)
      obtain ⟨rfl, rfl⟩ := hw
      have hP : va_P D vwCl (wM a cI cZ (pt (M) 0 0 (2))) H := hP
      have hD : va_D A (wM a cI cZ (pt (M) 0 0 (2))) := hD
      refine lv_if_eq (tgt := 35) hx hb dX4_settle_30 (by decide) (fun c30 => ?_) (fun c30 => ?_)
      · -- 30 taken
        exact absurd c30 (by decide)
      · -- 30 on
        refine lv_iconst (v := 0) hx hb dX4_settle_33 (by decide) ?_
        exact W.iret (v := 0) hx hb hr (fun t ht hW => ⟨⟨0, (pt (M) 0 0 (2)), rfl, ⟨rfl, by rw [stlK_2 (by rw [show mB M 11 0 = nI n from hM]; exact dn ⟨nI_pos (by omega), (nI_ltI (by omega) (by omega)).mpr hbn⟩) (by rw [hcl]; exact c19)]; rfl⟩, by rw [ht]; exact hP, va_K.moved hW.alike hK, hD⟩, hS.F ht⟩) hS.2.2 dX4_settle_34
  · -- 6 on
    have c6 := b2_0 c6
    refine lv_iconst (v := 1) hx hb dX4_settle_9 (by decide) ?_
    refine lv_goto (tgt := 27) hx hb dX4_settle_10 (by decide) ?_
    refine zcVi (ci := 4) (q0 := 0) (wf := (fun (u : Nat → Nat → Int32) => (wM a cI cZ u))) (List.range 21) ⟨hx, hb, hml, hown, hts⟩ (zwAll 21 (by decide) rfl hP hD hS hA) hK (c_X4_refused_k l D cI cZ a H.size (M) (1) (by first | rfl | decide)) (cwV 1 hts gX4_settle_X4_refused rfl rfl rfl (by decide +kernel) ⟨Nat.le_of_ble_eq_true rfl, Nat.le_of_ble_eq_true rfl⟩) rfl rfl (by decide) (fun _ => rfl) rfl hl.1 rfl (Nat.le_of_ble_eq_true rfl) dX4_settle_27 ⟨Nat.le_of_ble_eq_true rfl, Nat.le_of_ble_eq_true rfl⟩ (fun r27 u H locs hw hP hD hS => ?_)
    obtain ⟨rfl, rfl⟩ := hw
    have hP : va_P D vwCl (wM a cI cZ (pt (M) 0 0 (1))) H := hP
    have hD : va_D A (wM a cI cZ (pt (M) 0 0 (1))) := hD
    refine lv_if_eq (tgt := 35) hx hb dX4_settle_30 (by decide) (fun c30 => ?_) (fun c30 => ?_)
    · -- 30 taken
      exact absurd c30 (by decide)
    · -- 30 on
      refine lv_iconst (v := 0) hx hb dX4_settle_33 (by decide) ?_
      exact W.iret (v := 0) hx hb hr (fun t ht hW => ⟨⟨0, (pt (M) 0 0 (1)), rfl, ⟨rfl, by rw [show stlK (mB M) vx = 1 from if_pos (by rw [show mB M 11 0 = nI n from hM]; exact dp c6)]; rfl⟩, by rw [ht]; exact hP, va_K.moved hW.alike hK, hD⟩, hS.F ht⟩) hS.2.2 dX4_settle_34
set_option maxHeartbeats 4000000 in
set_option maxRecDepth 100000 in
theorem c_X4_advance_0 (l : Launch) (D : va_G) (cI cZ : ClassId) (a : Nat → Nat) (sz : Nat) (M : Nat → Nat → Int32) (dd : Int32) (h1 : ¬ dd < 1) (h2 : dd ≤ 100) : Met l yX4_advance wsX4_advance ({ frames := 1, cells := 0, slots := 0, locals := 22 } : Room) (va_Pc [.ref (a 0), .int (dd)] (PreW D cI cZ (wM a cI cZ M) sz)) (va_Qi (fun (r : Int32) (u : Nat → Nat → Int32) => r = M 1 0 + dd ∧ u = pt (pt M 0 0 0) 1 0 (M 1 0 + dd)) (fun (u : Nat → Nat → Int32) => PostW D cI cZ (va_A (wM a cI cZ M) sz) (wM a cI cZ u)) (va_A (wM a cI cZ M) sz)) 0 0 (va_A (wM a cI cZ M) sz) := by
  refine Met.ofW (cc := cX4_advance) (maxL := 2) (ret := (some .int)) (by decide) rfl ?_
  intro p e s m args below meth c s₁ BB hml hv
  obtain ⟨rfl, hsz, hP, hK, hD0⟩ := hv
  have hx := BB.exec
  have hb := BB.bytes
  have hr := BB.returns
  have hts := atoms_spec (ws := wsX4_advance) BB.pre
  have hown : s.vm.findClass RX4 = some m.cls := findClass_of_methodNamed BB.named
  have hlocks := BB.notSynchronized
  clear BB
  subst hsz
  have hD := hD0.self (sz := s.heap.size)
  clear hD0
  generalize hAe : va_A (wM a cI cZ M) s.heap.size = A at hD ⊢
  have hA : ∀ q : Nat, s.heap.size ≤ q → A q := fun q h => by rw [← hAe]; exact Or.inr h
  clear hAe
  have hS : va_S A s.heap s.heap [] := va_S.rf
  have hl := lv_entry ([.ref (a 0), .int (dd)]) (n := 2) (Nat.le_of_ble_eq_true rfl)
  rw [lg_entry_eq]
  generalize (lg_sl ([.ref (a 0), .int (dd)]) ++ List.replicate (2 - (lg_sl ([.ref (a 0), .int (dd)])).length) Slot.unset).toArray = ls at hl ⊢
  have hl : lv_has ls 2 [(0, .ref (a 0)), (1, .int (dd))] := hl
  generalize hHe : s.heap = H at hP
  have hS : va_S A s.heap H [] := by rw [← hHe]; exact va_S.rf
  clear hHe
  generalize hLe : ([] : List Loc) = locs at hS ⊢
  clear hLe
  refine lv_aload_n hx hb dX4_advance_0 rfl (lv_at hl 0 rfl) ?_
  refine lv_iload_n hx hb dX4_advance_1 rfl (lv_at hl 1 rfl) ?_
  refine lv_iconst (v := 1) hx hb dX4_advance_2 (by decide) ?_
  refine lv_bipush (v := 100) hx hb dX4_advance_3 (by decide) ?_
  refine zcSi (wf := (fun (u : Unit) => (wM a cI cZ M))) (List.range 21) ⟨hx, hb, hml, hown, hts⟩ (zwNo 21 (by decide) rfl hP hD hS hA) hK (c_X4_in l D cI cZ a H.size (dd) (1) (100) ) (cwS 3 hts gX4_advance_X4_in rfl rfl rfl (by decide +kernel) ⟨Nat.le_of_ble_eq_true rfl, Nat.le_of_ble_eq_true rfl⟩) (by decide) (fun _ => rfl) rfl hl.1 rfl (Nat.le_of_ble_eq_true rfl) dX4_advance_5 ⟨Nat.le_of_ble_eq_true rfl, Nat.le_of_ble_eq_true rfl⟩ (fun r5 u H locs hw hP hD hS => ?_)
  subst hw
  refine lv_if_eq (tgt := 15) hx hb dX4_advance_8 (by decide) (fun c8 => ?_) (fun c8 => ?_)
  · -- 8 taken
    have c8 := b2_0 c8
    exact absurd ⟨h1, h2⟩ c8
  · -- 8 on
    have c8 := b2_1 c8
    refine lv_iconst (v := 0) hx hb dX4_advance_11 (by decide) ?_
    refine lv_goto (tgt := 16) hx hb dX4_advance_12 (by decide) ?_
    refine zcVi (ci := 4) (q0 := 0) (wf := (fun (u : Nat → Nat → Int32) => (wM a cI cZ u))) (List.range 21) ⟨hx, hb, hml, hown, hts⟩ (zwAll 21 (by decide) rfl hP hD hS hA) hK (c_X4_refused_0 l D cI cZ a H.size (M) (0) (by first | rfl | decide)) (cwV 1 hts gX4_advance_X4_refused rfl rfl rfl (by decide +kernel) ⟨Nat.le_of_ble_eq_true rfl, Nat.le_of_ble_eq_true rfl⟩) rfl rfl (by decide) (fun _ => rfl) rfl hl.1 rfl (Nat.le_of_ble_eq_true rfl) dX4_advance_16 ⟨Nat.le_of_ble_eq_true rfl, Nat.le_of_ble_eq_true rfl⟩ (fun r16 u H locs hw hP hD hS => ?_)
    obtain ⟨rfl, rfl⟩ := hw
    have hP : va_P D vwCl (wM a cI cZ (pt (M) 0 0 0)) H := hP
    have hD : va_D A (wM a cI cZ (pt (M) 0 0 0)) := hD
    refine lv_if_eq (tgt := 24) hx hb dX4_advance_19 (by decide) (fun c19 => ?_) (fun c19 => ?_)
    · -- 19 taken
      refine lv_aload_n hx hb dX4_advance_24 rfl (lv_at hl 0 rfl) ?_
      refine lv_dup hx hb dX4_advance_25 rfl ?_
      refine va_get (D := D) (ci := 4) (v := .int ((pt (M) 0 0 0) 1 (0))) (C := RX4) (T := TX4) (N := 24) hx hb hts (fun w h => List.mem_cons_of_mem _ (List.mem_append_right _ h)) hown hK hP 0 rfl rfl 1 (by decide) (hts (.fieldLink RX4 89 "CashAllocatorModel" "day" "I") (by decide +kernel)) (fun _ h9 => h9) rfl dX4_advance_26 ?_
      refine lv_iload_n hx hb dX4_advance_29 rfl (lv_at hl 1 rfl) ?_
      refine lv_iadd hx hb dX4_advance_30 ?_
      refine va_put (D := D) (ci := 4) (v := .int (((pt (M) 0 0 0) 1 (0)) + (dd))) (ty := .int) (C := RX4) (T := TX4) (N := 24) hx hb hts (fun w h => List.mem_cons_of_mem _ (List.mem_append_right _ h)) tyX4 tyX4_ok nmX4 hown hK hP hD hS 0 rfl rfl 1 (by decide) (hts (.fieldLink RX4 89 "CashAllocatorModel" "day" "I") (by decide +kernel)) (fun _ h9 => h9) rfl (by decide +kernel) rfl rfl (Nat.le_of_ble_eq_true rfl) dX4_advance_31 (fun H locs hP hD hS => ?_)
      have hP : va_P D vwCl (wM a cI cZ (pt (pt (M) 0 0 0) 1 (0) (((pt (M) 0 0 0) 1 (0)) + (dd)))) H := hP
      have hD : va_D A (wM a cI cZ (pt (pt (M) 0 0 0) 1 (0) (((pt (M) 0 0 0) 1 (0)) + (dd)))) := hD
      refine lv_aload_n hx hb dX4_advance_34 rfl (lv_at hl 0 rfl) ?_
      refine va_get (D := D) (ci := 4) (v := .int (((pt (M) 0 0 0) 1 (0)) + (dd))) (C := RX4) (T := TX4) (N := 24) hx hb hts (fun w h => List.mem_cons_of_mem _ (List.mem_append_right _ h)) hown hK hP 0 rfl rfl 1 (by decide) (hts (.fieldLink RX4 89 "CashAllocatorModel" "day" "I") (by decide +kernel)) (fun _ h9 => h9) rfl dX4_advance_35 ?_
      exact W.iret (v := ((pt (M) 0 0 0) 1 (0)) + (dd)) hx hb hr (fun t ht hW => ⟨⟨((pt (M) 0 0 0) 1 (0)) + (dd), (pt (pt (M) 0 0 0) 1 (0) (((pt (M) 0 0 0) 1 (0)) + (dd))), rfl, ⟨rfl, rfl⟩, by rw [ht]; exact hP, va_K.moved hW.alike hK, hD⟩, hS.F ht⟩) hS.2.2 dX4_advance_38
    · -- 19 on
      exact absurd c19 (by decide)
set_option maxHeartbeats 4000000 in
set_option maxRecDepth 100000 in
theorem c_X4_advance_k (l : Launch) (D : va_G) (cI cZ : ClassId) (a : Nat → Nat) (sz : Nat) (M : Nat → Nat → Int32) (dd : Int32) (h : dd < 1 ∨ ¬ dd ≤ 100) : Met l yX4_advance wsX4_advance ({ frames := 1, cells := 0, slots := 0, locals := 22 } : Room) (va_Pc [.ref (a 0), .int (dd)] (PreW D cI cZ (wM a cI cZ M) sz)) (va_Qi (fun (r : Int32) (u : Nat → Nat → Int32) => r = 0 ∧ u = pt M 0 0 1) (fun (u : Nat → Nat → Int32) => PostW D cI cZ (va_A (wM a cI cZ M) sz) (wM a cI cZ u)) (va_A (wM a cI cZ M) sz)) 0 0 (va_A (wM a cI cZ M) sz) := by
  refine Met.ofW (cc := cX4_advance) (maxL := 2) (ret := (some .int)) (by decide) rfl ?_
  intro p e s m args below meth c s₁ BB hml hv
  obtain ⟨rfl, hsz, hP, hK, hD0⟩ := hv
  have hx := BB.exec
  have hb := BB.bytes
  have hr := BB.returns
  have hts := atoms_spec (ws := wsX4_advance) BB.pre
  have hown : s.vm.findClass RX4 = some m.cls := findClass_of_methodNamed BB.named
  have hlocks := BB.notSynchronized
  clear BB
  subst hsz
  have hD := hD0.self (sz := s.heap.size)
  clear hD0
  generalize hAe : va_A (wM a cI cZ M) s.heap.size = A at hD ⊢
  have hA : ∀ q : Nat, s.heap.size ≤ q → A q := fun q h => by rw [← hAe]; exact Or.inr h
  clear hAe
  have hS : va_S A s.heap s.heap [] := va_S.rf
  have hl := lv_entry ([.ref (a 0), .int (dd)]) (n := 2) (Nat.le_of_ble_eq_true rfl)
  rw [lg_entry_eq]
  generalize (lg_sl ([.ref (a 0), .int (dd)]) ++ List.replicate (2 - (lg_sl ([.ref (a 0), .int (dd)])).length) Slot.unset).toArray = ls at hl ⊢
  have hl : lv_has ls 2 [(0, .ref (a 0)), (1, .int (dd))] := hl
  generalize hHe : s.heap = H at hP
  have hS : va_S A s.heap H [] := by rw [← hHe]; exact va_S.rf
  clear hHe
  generalize hLe : ([] : List Loc) = locs at hS ⊢
  clear hLe
  refine lv_aload_n hx hb dX4_advance_0 rfl (lv_at hl 0 rfl) ?_
  refine lv_iload_n hx hb dX4_advance_1 rfl (lv_at hl 1 rfl) ?_
  refine lv_iconst (v := 1) hx hb dX4_advance_2 (by decide) ?_
  refine lv_bipush (v := 100) hx hb dX4_advance_3 (by decide) ?_
  refine zcSi (wf := (fun (u : Unit) => (wM a cI cZ M))) (List.range 21) ⟨hx, hb, hml, hown, hts⟩ (zwNo 21 (by decide) rfl hP hD hS hA) hK (c_X4_in l D cI cZ a H.size (dd) (1) (100) ) (cwS 3 hts gX4_advance_X4_in rfl rfl rfl (by decide +kernel) ⟨Nat.le_of_ble_eq_true rfl, Nat.le_of_ble_eq_true rfl⟩) (by decide) (fun _ => rfl) rfl hl.1 rfl (Nat.le_of_ble_eq_true rfl) dX4_advance_5 ⟨Nat.le_of_ble_eq_true rfl, Nat.le_of_ble_eq_true rfl⟩ (fun r5 u H locs hw hP hD hS => ?_)
  subst hw
  refine lv_if_eq (tgt := 15) hx hb dX4_advance_8 (by decide) (fun c8 => ?_) (fun c8 => ?_)
  · -- 8 taken
    have c8 := b2_0 c8
    refine lv_iconst (v := 1) hx hb dX4_advance_15 (by decide) ?_
    refine zcVi (ci := 4) (q0 := 0) (wf := (fun (u : Nat → Nat → Int32) => (wM a cI cZ u))) (List.range 21) ⟨hx, hb, hml, hown, hts⟩ (zwAll 21 (by decide) rfl hP hD hS hA) hK (c_X4_refused_k l D cI cZ a H.size (M) (1) (by first | rfl | decide)) (cwV 1 hts gX4_advance_X4_refused rfl rfl rfl (by decide +kernel) ⟨Nat.le_of_ble_eq_true rfl, Nat.le_of_ble_eq_true rfl⟩) rfl rfl (by decide) (fun _ => rfl) rfl hl.1 rfl (Nat.le_of_ble_eq_true rfl) dX4_advance_16 ⟨Nat.le_of_ble_eq_true rfl, Nat.le_of_ble_eq_true rfl⟩ (fun r16 u H locs hw hP hD hS => ?_)
    obtain ⟨rfl, rfl⟩ := hw
    have hP : va_P D vwCl (wM a cI cZ (pt (M) 0 0 (1))) H := hP
    have hD : va_D A (wM a cI cZ (pt (M) 0 0 (1))) := hD
    refine lv_if_eq (tgt := 24) hx hb dX4_advance_19 (by decide) (fun c19 => ?_) (fun c19 => ?_)
    · -- 19 taken
      exact absurd c19 (by decide)
    · -- 19 on
      refine lv_iconst (v := 0) hx hb dX4_advance_22 (by decide) ?_
      exact W.iret (v := 0) hx hb hr (fun t ht hW => ⟨⟨0, (pt (M) 0 0 (1)), rfl, ⟨rfl, rfl⟩, by rw [ht]; exact hP, va_K.moved hW.alike hK, hD⟩, hS.F ht⟩) hS.2.2 dX4_advance_23
  · -- 8 on
    have c8 := b2_1 c8
    exact absurd h (dn c8)
set_option maxHeartbeats 4000000 in
set_option maxRecDepth 100000 in
theorem c_X4_bills (l : Launch) (D : va_G) (cI cZ : ClassId) (a : Nat → Nat) (sz : Nat) (M : Nat → Nat → Int32) : Met l yX4_bills wsX4_bills ({ frames := 1, cells := 0, slots := 0, locals := 21 } : Room) (va_Pc [.ref (a 0)] (PreW D cI cZ (wM a cI cZ M) sz)) (va_Qi (fun (r : Int32) (u : Nat → Nat → Int32) => r = M 2 0 ∧ u = pt M 0 0 0) (fun (u : Nat → Nat → Int32) => PostW D cI cZ (va_A (wM a cI cZ M) sz) (wM a cI cZ u)) (va_A (wM a cI cZ M) sz)) 0 0 (va_A (wM a cI cZ M) sz) := by
  refine Met.ofW (cc := cX4_bills) (maxL := 1) (ret := (some .int)) (by decide) rfl ?_
  intro p e s m args below meth c s₁ BB hml hv
  obtain ⟨rfl, hsz, hP, hK, hD0⟩ := hv
  have hx := BB.exec
  have hb := BB.bytes
  have hr := BB.returns
  have hts := atoms_spec (ws := wsX4_bills) BB.pre
  have hown : s.vm.findClass RX4 = some m.cls := findClass_of_methodNamed BB.named
  have hlocks := BB.notSynchronized
  clear BB
  subst hsz
  have hD := hD0.self (sz := s.heap.size)
  clear hD0
  generalize hAe : va_A (wM a cI cZ M) s.heap.size = A at hD ⊢
  have hA : ∀ q : Nat, s.heap.size ≤ q → A q := fun q h => by rw [← hAe]; exact Or.inr h
  clear hAe
  have hS : va_S A s.heap s.heap [] := va_S.rf
  have hl := lv_entry ([.ref (a 0)]) (n := 1) (Nat.le_of_ble_eq_true rfl)
  rw [lg_entry_eq]
  generalize (lg_sl ([.ref (a 0)]) ++ List.replicate (1 - (lg_sl ([.ref (a 0)])).length) Slot.unset).toArray = ls at hl ⊢
  have hl : lv_has ls 1 [(0, .ref (a 0))] := hl
  generalize hHe : s.heap = H at hP
  have hS : va_S A s.heap H [] := by rw [← hHe]; exact va_S.rf
  clear hHe
  generalize hLe : ([] : List Loc) = locs at hS ⊢
  clear hLe
  refine lv_aload_n hx hb dX4_bills_0 rfl (lv_at hl 0 rfl) ?_
  refine lv_aload_n hx hb dX4_bills_1 rfl (lv_at hl 0 rfl) ?_
  refine va_get (D := D) (ci := 4) (v := .int (M 2 (0))) (C := RX4) (T := TX4) (N := 24) hx hb hts (fun w h => List.mem_cons_of_mem _ (List.mem_append_right _ h)) hown hK hP 0 rfl rfl 2 (by decide) (hts (.fieldLink RX4 79 "CashAllocatorModel" "bills" "I") (by decide +kernel)) (fun _ h9 => h9) rfl dX4_bills_2 ?_
  refine zcVi (ci := 4) (q0 := 0) (wf := (fun (u : Nat → Nat → Int32) => (wM a cI cZ u))) (List.range 21) ⟨hx, hb, hml, hown, hts⟩ (zwAll 21 (by decide) rfl hP hD hS hA) hK (c_X4_fine l D cI cZ a H.size (M) (M 2 (0)) ) (cwV 1 hts gX4_bills_X4_fine rfl rfl rfl (by decide +kernel) ⟨Nat.le_of_ble_eq_true rfl, Nat.le_of_ble_eq_true rfl⟩) rfl rfl (by decide) (fun _ => rfl) rfl hl.1 rfl (Nat.le_of_ble_eq_true rfl) dX4_bills_5 ⟨Nat.le_of_ble_eq_true rfl, Nat.le_of_ble_eq_true rfl⟩ (fun r5 u H locs hw hP hD hS => ?_)
  obtain ⟨rfl, rfl⟩ := hw
  have hP : va_P D vwCl (wM a cI cZ (pt (M) 0 0 0)) H := hP
  have hD : va_D A (wM a cI cZ (pt (M) 0 0 0)) := hD
  exact W.iret (v := (M 2 (0))) hx hb hr (fun t ht hW => ⟨⟨(M 2 (0)), (pt (M) 0 0 0), rfl, ⟨rfl, rfl⟩, by rw [ht]; exact hP, va_K.moved hW.alike hK, hD⟩, hS.F ht⟩) hS.2.2 dX4_bills_8
set_option maxHeartbeats 4000000 in
set_option maxRecDepth 100000 in
theorem c_X4_receipts (l : Launch) (D : va_G) (cI cZ : ClassId) (a : Nat → Nat) (sz : Nat) (M : Nat → Nat → Int32) : Met l yX4_receipts wsX4_receipts ({ frames := 1, cells := 0, slots := 0, locals := 21 } : Room) (va_Pc [.ref (a 0)] (PreW D cI cZ (wM a cI cZ M) sz)) (va_Qi (fun (r : Int32) (u : Nat → Nat → Int32) => r = M 15 0 ∧ u = pt M 0 0 0) (fun (u : Nat → Nat → Int32) => PostW D cI cZ (va_A (wM a cI cZ M) sz) (wM a cI cZ u)) (va_A (wM a cI cZ M) sz)) 0 0 (va_A (wM a cI cZ M) sz) := by
  refine Met.ofW (cc := cX4_receipts) (maxL := 1) (ret := (some .int)) (by decide) rfl ?_
  intro p e s m args below meth c s₁ BB hml hv
  obtain ⟨rfl, hsz, hP, hK, hD0⟩ := hv
  have hx := BB.exec
  have hb := BB.bytes
  have hr := BB.returns
  have hts := atoms_spec (ws := wsX4_receipts) BB.pre
  have hown : s.vm.findClass RX4 = some m.cls := findClass_of_methodNamed BB.named
  have hlocks := BB.notSynchronized
  clear BB
  subst hsz
  have hD := hD0.self (sz := s.heap.size)
  clear hD0
  generalize hAe : va_A (wM a cI cZ M) s.heap.size = A at hD ⊢
  have hA : ∀ q : Nat, s.heap.size ≤ q → A q := fun q h => by rw [← hAe]; exact Or.inr h
  clear hAe
  have hS : va_S A s.heap s.heap [] := va_S.rf
  have hl := lv_entry ([.ref (a 0)]) (n := 1) (Nat.le_of_ble_eq_true rfl)
  rw [lg_entry_eq]
  generalize (lg_sl ([.ref (a 0)]) ++ List.replicate (1 - (lg_sl ([.ref (a 0)])).length) Slot.unset).toArray = ls at hl ⊢
  have hl : lv_has ls 1 [(0, .ref (a 0))] := hl
  generalize hHe : s.heap = H at hP
  have hS : va_S A s.heap H [] := by rw [← hHe]; exact va_S.rf
  clear hHe
  generalize hLe : ([] : List Loc) = locs at hS ⊢
  clear hLe
  refine lv_aload_n hx hb dX4_receipts_0 rfl (lv_at hl 0 rfl) ?_
  refine lv_aload_n hx hb dX4_receipts_1 rfl (lv_at hl 0 rfl) ?_
  refine va_get (D := D) (ci := 4) (v := .int (M 15 (0))) (C := RX4) (T := TX4) (N := 24) hx hb hts (fun w h => List.mem_cons_of_mem _ (List.mem_append_right _ h)) hown hK hP 0 rfl rfl 15 (by decide) (hts (.fieldLink RX4 82 "CashAllocatorModel" "receipts" "I") (by decide +kernel)) (fun _ h9 => h9) rfl dX4_receipts_2 ?_
  refine zcVi (ci := 4) (q0 := 0) (wf := (fun (u : Nat → Nat → Int32) => (wM a cI cZ u))) (List.range 21) ⟨hx, hb, hml, hown, hts⟩ (zwAll 21 (by decide) rfl hP hD hS hA) hK (c_X4_fine l D cI cZ a H.size (M) (M 15 (0)) ) (cwV 1 hts gX4_receipts_X4_fine rfl rfl rfl (by decide +kernel) ⟨Nat.le_of_ble_eq_true rfl, Nat.le_of_ble_eq_true rfl⟩) rfl rfl (by decide) (fun _ => rfl) rfl hl.1 rfl (Nat.le_of_ble_eq_true rfl) dX4_receipts_5 ⟨Nat.le_of_ble_eq_true rfl, Nat.le_of_ble_eq_true rfl⟩ (fun r5 u H locs hw hP hD hS => ?_)
  obtain ⟨rfl, rfl⟩ := hw
  have hP : va_P D vwCl (wM a cI cZ (pt (M) 0 0 0)) H := hP
  have hD : va_D A (wM a cI cZ (pt (M) 0 0 0)) := hD
  exact W.iret (v := (M 15 (0))) hx hb hr (fun t ht hW => ⟨⟨(M 15 (0)), (pt (M) 0 0 0), rfl, ⟨rfl, rfl⟩, by rw [ht]; exact hP, va_K.moved hW.alike hK, hD⟩, hS.F ht⟩) hS.2.2 dX4_receipts_8
set_option maxHeartbeats 4000000 in
set_option maxRecDepth 100000 in
theorem c_X4_day (l : Launch) (D : va_G) (cI cZ : ClassId) (a : Nat → Nat) (sz : Nat) (M : Nat → Nat → Int32) : Met l yX4_day wsX4_day ({ frames := 1, cells := 0, slots := 0, locals := 21 } : Room) (va_Pc [.ref (a 0)] (PreW D cI cZ (wM a cI cZ M) sz)) (va_Qi (fun (r : Int32) (u : Nat → Nat → Int32) => r = M 1 0 ∧ u = pt M 0 0 0) (fun (u : Nat → Nat → Int32) => PostW D cI cZ (va_A (wM a cI cZ M) sz) (wM a cI cZ u)) (va_A (wM a cI cZ M) sz)) 0 0 (va_A (wM a cI cZ M) sz) := by
  refine Met.ofW (cc := cX4_day) (maxL := 1) (ret := (some .int)) (by decide) rfl ?_
  intro p e s m args below meth c s₁ BB hml hv
  obtain ⟨rfl, hsz, hP, hK, hD0⟩ := hv
  have hx := BB.exec
  have hb := BB.bytes
  have hr := BB.returns
  have hts := atoms_spec (ws := wsX4_day) BB.pre
  have hown : s.vm.findClass RX4 = some m.cls := findClass_of_methodNamed BB.named
  have hlocks := BB.notSynchronized
  clear BB
  subst hsz
  have hD := hD0.self (sz := s.heap.size)
  clear hD0
  generalize hAe : va_A (wM a cI cZ M) s.heap.size = A at hD ⊢
  have hA : ∀ q : Nat, s.heap.size ≤ q → A q := fun q h => by rw [← hAe]; exact Or.inr h
  clear hAe
  have hS : va_S A s.heap s.heap [] := va_S.rf
  have hl := lv_entry ([.ref (a 0)]) (n := 1) (Nat.le_of_ble_eq_true rfl)
  rw [lg_entry_eq]
  generalize (lg_sl ([.ref (a 0)]) ++ List.replicate (1 - (lg_sl ([.ref (a 0)])).length) Slot.unset).toArray = ls at hl ⊢
  have hl : lv_has ls 1 [(0, .ref (a 0))] := hl
  generalize hHe : s.heap = H at hP
  have hS : va_S A s.heap H [] := by rw [← hHe]; exact va_S.rf
  clear hHe
  generalize hLe : ([] : List Loc) = locs at hS ⊢
  clear hLe
  refine lv_aload_n hx hb dX4_day_0 rfl (lv_at hl 0 rfl) ?_
  refine lv_aload_n hx hb dX4_day_1 rfl (lv_at hl 0 rfl) ?_
  refine va_get (D := D) (ci := 4) (v := .int (M 1 (0))) (C := RX4) (T := TX4) (N := 24) hx hb hts (fun w h => List.mem_cons_of_mem _ (List.mem_append_right _ h)) hown hK hP 0 rfl rfl 1 (by decide) (hts (.fieldLink RX4 89 "CashAllocatorModel" "day" "I") (by decide +kernel)) (fun _ h9 => h9) rfl dX4_day_2 ?_
  refine zcVi (ci := 4) (q0 := 0) (wf := (fun (u : Nat → Nat → Int32) => (wM a cI cZ u))) (List.range 21) ⟨hx, hb, hml, hown, hts⟩ (zwAll 21 (by decide) rfl hP hD hS hA) hK (c_X4_fine l D cI cZ a H.size (M) (M 1 (0)) ) (cwV 1 hts gX4_day_X4_fine rfl rfl rfl (by decide +kernel) ⟨Nat.le_of_ble_eq_true rfl, Nat.le_of_ble_eq_true rfl⟩) rfl rfl (by decide) (fun _ => rfl) rfl hl.1 rfl (Nat.le_of_ble_eq_true rfl) dX4_day_5 ⟨Nat.le_of_ble_eq_true rfl, Nat.le_of_ble_eq_true rfl⟩ (fun r5 u H locs hw hP hD hS => ?_)
  obtain ⟨rfl, rfl⟩ := hw
  have hP : va_P D vwCl (wM a cI cZ (pt (M) 0 0 0)) H := hP
  have hD : va_D A (wM a cI cZ (pt (M) 0 0 0)) := hD
  exact W.iret (v := (M 1 (0))) hx hb hr (fun t ht hW => ⟨⟨(M 1 (0)), (pt (M) 0 0 0), rfl, ⟨rfl, rfl⟩, by rw [ht]; exact hP, va_K.moved hW.alike hK, hD⟩, hS.F ht⟩) hS.2.2 dX4_day_8
set_option maxHeartbeats 4000000 in
set_option maxRecDepth 100000 in
theorem c_X4_open_0 (l : Launch) (D : va_G) (cI cZ : ClassId) (a : Nat → Nat) (sz : Nat) (M : Nat → Nat → Int32) (n : Nat) (i : Nat) (hM : M 2 0 = nI n) (hn : n ≤ 40) (hbn : i < n) : Met l yX4_open wsX4_open ({ frames := 3, cells := 0, slots := 0, locals := 64 } : Room) (va_Pc [.ref (a 0), .int (nI (i))] (PreW D cI cZ (wM a cI cZ M) sz)) (va_Qi (fun (r : Int32) (u : Nat → Nat → Int32) => r = mopn M i ∧ u = pt M 0 0 0) (fun (u : Nat → Nat → Int32) => PostW D cI cZ (va_A (wM a cI cZ M) sz) (wM a cI cZ u)) (va_A (wM a cI cZ M) sz)) 0 0 (va_A (wM a cI cZ M) sz) := by
  refine Met.ofW (cc := cX4_open) (maxL := 2) (ret := (some .int)) (by decide) rfl ?_
  intro p e s m args below meth c s₁ BB hml hv
  obtain ⟨rfl, hsz, hP, hK, hD0⟩ := hv
  have hx := BB.exec
  have hb := BB.bytes
  have hr := BB.returns
  have hts := atoms_spec (ws := wsX4_open) BB.pre
  have hown : s.vm.findClass RX4 = some m.cls := findClass_of_methodNamed BB.named
  have hlocks := BB.notSynchronized
  clear BB
  subst hsz
  have hD := hD0.self (sz := s.heap.size)
  clear hD0
  generalize hAe : va_A (wM a cI cZ M) s.heap.size = A at hD ⊢
  have hA : ∀ q : Nat, s.heap.size ≤ q → A q := fun q h => by rw [← hAe]; exact Or.inr h
  clear hAe
  have hS : va_S A s.heap s.heap [] := va_S.rf
  have hl := lv_entry ([.ref (a 0), .int (nI (i))]) (n := 2) (Nat.le_of_ble_eq_true rfl)
  rw [lg_entry_eq]
  generalize (lg_sl ([.ref (a 0), .int (nI (i))]) ++ List.replicate (2 - (lg_sl ([.ref (a 0), .int (nI (i))])).length) Slot.unset).toArray = ls at hl ⊢
  have hl : lv_has ls 2 [(0, .ref (a 0)), (1, .int (nI (i)))] := hl
  generalize hHe : s.heap = H at hP
  have hS : va_S A s.heap H [] := by rw [← hHe]; exact va_S.rf
  clear hHe
  generalize hLe : ([] : List Loc) = locs at hS ⊢
  clear hLe
  refine lv_aload_n hx hb dX4_open_0 rfl (lv_at hl 0 rfl) ?_
  refine lv_iload_n hx hb dX4_open_1 rfl (lv_at hl 1 rfl) ?_
  refine zcVi (ci := 4) (q0 := 0) (wf := (fun (u : Nat → Nat → Int32) => (wM a cI cZ u))) (List.range 21) ⟨hx, hb, hml, hown, hts⟩ (zwAll 21 (by decide) rfl hP hD hS hA) hK (c_X4_noBill_0 l D cI cZ a H.size (M) (n) (nI (i)) (by first | assumption | omega) (by first | assumption | omega) ⟨nI_pos (by omega), (nI_ltI (by omega) (by omega)).mpr hbn⟩) (cwV 1 hts gX4_open_X4_noBill rfl rfl rfl (by decide +kernel) ⟨Nat.le_of_ble_eq_true rfl, Nat.le_of_ble_eq_true rfl⟩) rfl rfl (by decide) (fun _ => rfl) rfl hl.1 rfl (Nat.le_of_ble_eq_true rfl) dX4_open_2 ⟨Nat.le_of_ble_eq_true rfl, Nat.le_of_ble_eq_true rfl⟩ (fun r2 u H locs hw hP hD hS => ?_)
  obtain ⟨rfl, rfl⟩ := hw
  have hP : va_P D vwCl (wM a cI cZ (pt (M) 0 0 0)) H := hP
  have hD : va_D A (wM a cI cZ (pt (M) 0 0 0)) := hD
  refine lv_if_eq (tgt := 12) hx hb dX4_open_5 (by decide) (fun c5 => ?_) (fun c5 => ?_)
  · -- 5 taken
    refine lv_aload_n hx hb dX4_open_12 rfl (lv_at hl 0 rfl) ?_
    refine lv_iload_n hx hb dX4_open_13 rfl (lv_at hl 1 rfl) ?_
    refine zcVi (ci := 4) (q0 := 0) (wf := (fun (u : Unit) => (wM a cI cZ (pt (M) 0 0 0)))) (List.range 21) ⟨hx, hb, hml, hown, hts⟩ (zwAll 21 (by decide) rfl hP hD hS hA) hK (c_X4_openNow l D cI cZ a H.size ((pt (M) 0 0 0)) (i) (by first | assumption | omega)) (cwV 1 hts gX4_open_X4_openNow rfl rfl rfl (by decide +kernel) ⟨Nat.le_of_ble_eq_true rfl, Nat.le_of_ble_eq_true rfl⟩) rfl rfl (by decide) (fun _ => rfl) rfl hl.1 rfl (Nat.le_of_ble_eq_true rfl) dX4_open_14 ⟨Nat.le_of_ble_eq_true rfl, Nat.le_of_ble_eq_true rfl⟩ (fun r14 u H locs hw hP hD hS => ?_)
    subst hw
    exact W.iret (v := mopn ((pt (M) 0 0 0)) (i)) hx hb hr (fun t ht hW => ⟨⟨mopn ((pt (M) 0 0 0)) (i), (pt (M) 0 0 0), rfl, ⟨rfl, rfl⟩, by rw [ht]; exact hP, va_K.moved hW.alike hK, hD⟩, hS.F ht⟩) hS.2.2 dX4_open_17
  · -- 5 on
    exact absurd c5 (by decide)
set_option maxHeartbeats 4000000 in
set_option maxRecDepth 100000 in
theorem c_X4_open_k (l : Launch) (D : va_G) (cI cZ : ClassId) (a : Nat → Nat) (sz : Nat) (M : Nat → Nat → Int32) (n : Nat) (vx : Int32) (hM : M 2 0 = nI n) (hn : n ≤ 40) (h : ¬ (¬ vx < 0 ∧ vx < nI n)) : Met l yX4_open wsX4_open ({ frames := 3, cells := 0, slots := 0, locals := 64 } : Room) (va_Pc [.ref (a 0), .int (vx)] (PreW D cI cZ (wM a cI cZ M) sz)) (va_Qi (fun (r : Int32) (u : Nat → Nat → Int32) => r = 0 ∧ u = pt M 0 0 1) (fun (u : Nat → Nat → Int32) => PostW D cI cZ (va_A (wM a cI cZ M) sz) (wM a cI cZ u)) (va_A (wM a cI cZ M) sz)) 0 0 (va_A (wM a cI cZ M) sz) := by
  refine Met.ofW (cc := cX4_open) (maxL := 2) (ret := (some .int)) (by decide) rfl ?_
  intro p e s m args below meth c s₁ BB hml hv
  obtain ⟨rfl, hsz, hP, hK, hD0⟩ := hv
  have hx := BB.exec
  have hb := BB.bytes
  have hr := BB.returns
  have hts := atoms_spec (ws := wsX4_open) BB.pre
  have hown : s.vm.findClass RX4 = some m.cls := findClass_of_methodNamed BB.named
  have hlocks := BB.notSynchronized
  clear BB
  subst hsz
  have hD := hD0.self (sz := s.heap.size)
  clear hD0
  generalize hAe : va_A (wM a cI cZ M) s.heap.size = A at hD ⊢
  have hA : ∀ q : Nat, s.heap.size ≤ q → A q := fun q h => by rw [← hAe]; exact Or.inr h
  clear hAe
  have hS : va_S A s.heap s.heap [] := va_S.rf
  have hl := lv_entry ([.ref (a 0), .int (vx)]) (n := 2) (Nat.le_of_ble_eq_true rfl)
  rw [lg_entry_eq]
  generalize (lg_sl ([.ref (a 0), .int (vx)]) ++ List.replicate (2 - (lg_sl ([.ref (a 0), .int (vx)])).length) Slot.unset).toArray = ls at hl ⊢
  have hl : lv_has ls 2 [(0, .ref (a 0)), (1, .int (vx))] := hl
  generalize hHe : s.heap = H at hP
  have hS : va_S A s.heap H [] := by rw [← hHe]; exact va_S.rf
  clear hHe
  generalize hLe : ([] : List Loc) = locs at hS ⊢
  clear hLe
  refine lv_aload_n hx hb dX4_open_0 rfl (lv_at hl 0 rfl) ?_
  refine lv_iload_n hx hb dX4_open_1 rfl (lv_at hl 1 rfl) ?_
  refine zcVi (ci := 4) (q0 := 0) (wf := (fun (u : Nat → Nat → Int32) => (wM a cI cZ u))) (List.range 21) ⟨hx, hb, hml, hown, hts⟩ (zwAll 21 (by decide) rfl hP hD hS hA) hK (c_X4_noBill_k l D cI cZ a H.size (M) (n) (vx) (by first | assumption | omega) (by first | assumption | omega) h) (cwV 1 hts gX4_open_X4_noBill rfl rfl rfl (by decide +kernel) ⟨Nat.le_of_ble_eq_true rfl, Nat.le_of_ble_eq_true rfl⟩) rfl rfl (by decide) (fun _ => rfl) rfl hl.1 rfl (Nat.le_of_ble_eq_true rfl) dX4_open_2 ⟨Nat.le_of_ble_eq_true rfl, Nat.le_of_ble_eq_true rfl⟩ (fun r2 u H locs hw hP hD hS => ?_)
  obtain ⟨rfl, rfl⟩ := hw
  have hP : va_P D vwCl (wM a cI cZ (pt (M) 0 0 1)) H := hP
  have hD : va_D A (wM a cI cZ (pt (M) 0 0 1)) := hD
  refine lv_if_eq (tgt := 12) hx hb dX4_open_5 (by decide) (fun c5 => ?_) (fun c5 => ?_)
  · -- 5 taken
    exact absurd c5 (by decide)
  · -- 5 on
    refine lv_iconst (v := 0) hx hb dX4_open_8 (by decide) ?_
    refine lv_goto (tgt := 17) hx hb dX4_open_9 (by decide) ?_
    exact W.iret (v := 0) hx hb hr (fun t ht hW => ⟨⟨0, (pt (M) 0 0 1), rfl, ⟨rfl, rfl⟩, by rw [ht]; exact hP, va_K.moved hW.alike hK, hD⟩, hS.F ht⟩) hS.2.2 dX4_open_17
set_option maxHeartbeats 4000000 in
set_option maxRecDepth 100000 in
theorem c_X4_due_0 (l : Launch) (D : va_G) (cI cZ : ClassId) (a : Nat → Nat) (sz : Nat) (M : Nat → Nat → Int32) (n : Nat) (i : Nat) (hM : M 2 0 = nI n) (hn : n ≤ 40) (hbn : i < n) : Met l yX4_due wsX4_due ({ frames := 3, cells := 0, slots := 0, locals := 64 } : Room) (va_Pc [.ref (a 0), .int (nI (i))] (PreW D cI cZ (wM a cI cZ M) sz)) (va_Qi (fun (r : Int32) (u : Nat → Nat → Int32) => r = mdue M i ∧ u = pt M 0 0 0) (fun (u : Nat → Nat → Int32) => PostW D cI cZ (va_A (wM a cI cZ M) sz) (wM a cI cZ u)) (va_A (wM a cI cZ M) sz)) 0 0 (va_A (wM a cI cZ M) sz) := by
  refine Met.ofW (cc := cX4_due) (maxL := 2) (ret := (some .int)) (by decide) rfl ?_
  intro p e s m args below meth c s₁ BB hml hv
  obtain ⟨rfl, hsz, hP, hK, hD0⟩ := hv
  have hx := BB.exec
  have hb := BB.bytes
  have hr := BB.returns
  have hts := atoms_spec (ws := wsX4_due) BB.pre
  have hown : s.vm.findClass RX4 = some m.cls := findClass_of_methodNamed BB.named
  have hlocks := BB.notSynchronized
  clear BB
  subst hsz
  have hD := hD0.self (sz := s.heap.size)
  clear hD0
  generalize hAe : va_A (wM a cI cZ M) s.heap.size = A at hD ⊢
  have hA : ∀ q : Nat, s.heap.size ≤ q → A q := fun q h => by rw [← hAe]; exact Or.inr h
  clear hAe
  have hS : va_S A s.heap s.heap [] := va_S.rf
  have hl := lv_entry ([.ref (a 0), .int (nI (i))]) (n := 2) (Nat.le_of_ble_eq_true rfl)
  rw [lg_entry_eq]
  generalize (lg_sl ([.ref (a 0), .int (nI (i))]) ++ List.replicate (2 - (lg_sl ([.ref (a 0), .int (nI (i))])).length) Slot.unset).toArray = ls at hl ⊢
  have hl : lv_has ls 2 [(0, .ref (a 0)), (1, .int (nI (i)))] := hl
  generalize hHe : s.heap = H at hP
  have hS : va_S A s.heap H [] := by rw [← hHe]; exact va_S.rf
  clear hHe
  generalize hLe : ([] : List Loc) = locs at hS ⊢
  clear hLe
  refine lv_aload_n hx hb dX4_due_0 rfl (lv_at hl 0 rfl) ?_
  refine lv_iload_n hx hb dX4_due_1 rfl (lv_at hl 1 rfl) ?_
  refine zcVi (ci := 4) (q0 := 0) (wf := (fun (u : Nat → Nat → Int32) => (wM a cI cZ u))) (List.range 21) ⟨hx, hb, hml, hown, hts⟩ (zwAll 21 (by decide) rfl hP hD hS hA) hK (c_X4_noBill_0 l D cI cZ a H.size (M) (n) (nI (i)) (by first | assumption | omega) (by first | assumption | omega) ⟨nI_pos (by omega), (nI_ltI (by omega) (by omega)).mpr hbn⟩) (cwV 1 hts gX4_due_X4_noBill rfl rfl rfl (by decide +kernel) ⟨Nat.le_of_ble_eq_true rfl, Nat.le_of_ble_eq_true rfl⟩) rfl rfl (by decide) (fun _ => rfl) rfl hl.1 rfl (Nat.le_of_ble_eq_true rfl) dX4_due_2 ⟨Nat.le_of_ble_eq_true rfl, Nat.le_of_ble_eq_true rfl⟩ (fun r2 u H locs hw hP hD hS => ?_)
  obtain ⟨rfl, rfl⟩ := hw
  have hP : va_P D vwCl (wM a cI cZ (pt (M) 0 0 0)) H := hP
  have hD : va_D A (wM a cI cZ (pt (M) 0 0 0)) := hD
  refine lv_if_eq (tgt := 12) hx hb dX4_due_5 (by decide) (fun c5 => ?_) (fun c5 => ?_)
  · -- 5 taken
    refine lv_aload_n hx hb dX4_due_12 rfl (lv_at hl 0 rfl) ?_
    refine lv_iload_n hx hb dX4_due_13 rfl (lv_at hl 1 rfl) ?_
    refine zcVi (ci := 4) (q0 := 0) (wf := (fun (u : Unit) => (wM a cI cZ (pt (M) 0 0 0)))) (List.range 21) ⟨hx, hb, hml, hown, hts⟩ (zwAll 21 (by decide) rfl hP hD hS hA) hK (c_X4_dueNow l D cI cZ a H.size ((pt (M) 0 0 0)) (i) (by first | assumption | omega)) (cwV 1 hts gX4_due_X4_dueNow rfl rfl rfl (by decide +kernel) ⟨Nat.le_of_ble_eq_true rfl, Nat.le_of_ble_eq_true rfl⟩) rfl rfl (by decide) (fun _ => rfl) rfl hl.1 rfl (Nat.le_of_ble_eq_true rfl) dX4_due_14 ⟨Nat.le_of_ble_eq_true rfl, Nat.le_of_ble_eq_true rfl⟩ (fun r14 u H locs hw hP hD hS => ?_)
    subst hw
    exact W.iret (v := mdue ((pt (M) 0 0 0)) (i)) hx hb hr (fun t ht hW => ⟨⟨mdue ((pt (M) 0 0 0)) (i), (pt (M) 0 0 0), rfl, ⟨rfl, rfl⟩, by rw [ht]; exact hP, va_K.moved hW.alike hK, hD⟩, hS.F ht⟩) hS.2.2 dX4_due_17
  · -- 5 on
    exact absurd c5 (by decide)
set_option maxHeartbeats 4000000 in
set_option maxRecDepth 100000 in
theorem c_X4_due_k (l : Launch) (D : va_G) (cI cZ : ClassId) (a : Nat → Nat) (sz : Nat) (M : Nat → Nat → Int32) (n : Nat) (vx : Int32) (hM : M 2 0 = nI n) (hn : n ≤ 40) (h : ¬ (¬ vx < 0 ∧ vx < nI n)) : Met l yX4_due wsX4_due ({ frames := 3, cells := 0, slots := 0, locals := 64 } : Room) (va_Pc [.ref (a 0), .int (vx)] (PreW D cI cZ (wM a cI cZ M) sz)) (va_Qi (fun (r : Int32) (u : Nat → Nat → Int32) => r = 0 ∧ u = pt M 0 0 1) (fun (u : Nat → Nat → Int32) => PostW D cI cZ (va_A (wM a cI cZ M) sz) (wM a cI cZ u)) (va_A (wM a cI cZ M) sz)) 0 0 (va_A (wM a cI cZ M) sz) := by
  refine Met.ofW (cc := cX4_due) (maxL := 2) (ret := (some .int)) (by decide) rfl ?_
  intro p e s m args below meth c s₁ BB hml hv
  obtain ⟨rfl, hsz, hP, hK, hD0⟩ := hv
  have hx := BB.exec
  have hb := BB.bytes
  have hr := BB.returns
  have hts := atoms_spec (ws := wsX4_due) BB.pre
  have hown : s.vm.findClass RX4 = some m.cls := findClass_of_methodNamed BB.named
  have hlocks := BB.notSynchronized
  clear BB
  subst hsz
  have hD := hD0.self (sz := s.heap.size)
  clear hD0
  generalize hAe : va_A (wM a cI cZ M) s.heap.size = A at hD ⊢
  have hA : ∀ q : Nat, s.heap.size ≤ q → A q := fun q h => by rw [← hAe]; exact Or.inr h
  clear hAe
  have hS : va_S A s.heap s.heap [] := va_S.rf
  have hl := lv_entry ([.ref (a 0), .int (vx)]) (n := 2) (Nat.le_of_ble_eq_true rfl)
  rw [lg_entry_eq]
  generalize (lg_sl ([.ref (a 0), .int (vx)]) ++ List.replicate (2 - (lg_sl ([.ref (a 0), .int (vx)])).length) Slot.unset).toArray = ls at hl ⊢
  have hl : lv_has ls 2 [(0, .ref (a 0)), (1, .int (vx))] := hl
  generalize hHe : s.heap = H at hP
  have hS : va_S A s.heap H [] := by rw [← hHe]; exact va_S.rf
  clear hHe
  generalize hLe : ([] : List Loc) = locs at hS ⊢
  clear hLe
  refine lv_aload_n hx hb dX4_due_0 rfl (lv_at hl 0 rfl) ?_
  refine lv_iload_n hx hb dX4_due_1 rfl (lv_at hl 1 rfl) ?_
  refine zcVi (ci := 4) (q0 := 0) (wf := (fun (u : Nat → Nat → Int32) => (wM a cI cZ u))) (List.range 21) ⟨hx, hb, hml, hown, hts⟩ (zwAll 21 (by decide) rfl hP hD hS hA) hK (c_X4_noBill_k l D cI cZ a H.size (M) (n) (vx) (by first | assumption | omega) (by first | assumption | omega) h) (cwV 1 hts gX4_due_X4_noBill rfl rfl rfl (by decide +kernel) ⟨Nat.le_of_ble_eq_true rfl, Nat.le_of_ble_eq_true rfl⟩) rfl rfl (by decide) (fun _ => rfl) rfl hl.1 rfl (Nat.le_of_ble_eq_true rfl) dX4_due_2 ⟨Nat.le_of_ble_eq_true rfl, Nat.le_of_ble_eq_true rfl⟩ (fun r2 u H locs hw hP hD hS => ?_)
  obtain ⟨rfl, rfl⟩ := hw
  have hP : va_P D vwCl (wM a cI cZ (pt (M) 0 0 1)) H := hP
  have hD : va_D A (wM a cI cZ (pt (M) 0 0 1)) := hD
  refine lv_if_eq (tgt := 12) hx hb dX4_due_5 (by decide) (fun c5 => ?_) (fun c5 => ?_)
  · -- 5 taken
    exact absurd c5 (by decide)
  · -- 5 on
    refine lv_iconst (v := 0) hx hb dX4_due_8 (by decide) ?_
    refine lv_goto (tgt := 17) hx hb dX4_due_9 (by decide) ?_
    exact W.iret (v := 0) hx hb hr (fun t ht hW => ⟨⟨0, (pt (M) 0 0 1), rfl, ⟨rfl, rfl⟩, by rw [ht]; exact hP, va_K.moved hW.alike hK, hD⟩, hS.F ht⟩) hS.2.2 dX4_due_17
set_option maxHeartbeats 4000000 in
set_option maxRecDepth 100000 in
theorem c_X4_paid_0 (l : Launch) (D : va_G) (cI cZ : ClassId) (a : Nat → Nat) (sz : Nat) (M : Nat → Nat → Int32) (n : Nat) (i : Nat) (hM : M 2 0 = nI n) (hn : n ≤ 40) (hbn : i < n) : Met l yX4_paid wsX4_paid ({ frames := 3, cells := 0, slots := 0, locals := 64 } : Room) (va_Pc [.ref (a 0), .int (nI (i))] (PreW D cI cZ (wM a cI cZ M) sz)) (va_Qi (fun (r : Int32) (u : Nat → Nat → Int32) => r = M 9 i ∧ u = pt M 0 0 0) (fun (u : Nat → Nat → Int32) => PostW D cI cZ (va_A (wM a cI cZ M) sz) (wM a cI cZ u)) (va_A (wM a cI cZ M) sz)) 0 0 (va_A (wM a cI cZ M) sz) := by
  refine Met.ofW (cc := cX4_paid) (maxL := 2) (ret := (some .int)) (by decide) rfl ?_
  intro p e s m args below meth c s₁ BB hml hv
  obtain ⟨rfl, hsz, hP, hK, hD0⟩ := hv
  have hx := BB.exec
  have hb := BB.bytes
  have hr := BB.returns
  have hts := atoms_spec (ws := wsX4_paid) BB.pre
  have hown : s.vm.findClass RX4 = some m.cls := findClass_of_methodNamed BB.named
  have hlocks := BB.notSynchronized
  clear BB
  subst hsz
  have hD := hD0.self (sz := s.heap.size)
  clear hD0
  generalize hAe : va_A (wM a cI cZ M) s.heap.size = A at hD ⊢
  have hA : ∀ q : Nat, s.heap.size ≤ q → A q := fun q h => by rw [← hAe]; exact Or.inr h
  clear hAe
  have hS : va_S A s.heap s.heap [] := va_S.rf
  have hl := lv_entry ([.ref (a 0), .int (nI (i))]) (n := 2) (Nat.le_of_ble_eq_true rfl)
  rw [lg_entry_eq]
  generalize (lg_sl ([.ref (a 0), .int (nI (i))]) ++ List.replicate (2 - (lg_sl ([.ref (a 0), .int (nI (i))])).length) Slot.unset).toArray = ls at hl ⊢
  have hl : lv_has ls 2 [(0, .ref (a 0)), (1, .int (nI (i)))] := hl
  generalize hHe : s.heap = H at hP
  have hS : va_S A s.heap H [] := by rw [← hHe]; exact va_S.rf
  clear hHe
  generalize hLe : ([] : List Loc) = locs at hS ⊢
  clear hLe
  refine lv_aload_n hx hb dX4_paid_0 rfl (lv_at hl 0 rfl) ?_
  refine lv_iload_n hx hb dX4_paid_1 rfl (lv_at hl 1 rfl) ?_
  refine zcVi (ci := 4) (q0 := 0) (wf := (fun (u : Nat → Nat → Int32) => (wM a cI cZ u))) (List.range 21) ⟨hx, hb, hml, hown, hts⟩ (zwAll 21 (by decide) rfl hP hD hS hA) hK (c_X4_noBill_0 l D cI cZ a H.size (M) (n) (nI (i)) (by first | assumption | omega) (by first | assumption | omega) ⟨nI_pos (by omega), (nI_ltI (by omega) (by omega)).mpr hbn⟩) (cwV 1 hts gX4_paid_X4_noBill rfl rfl rfl (by decide +kernel) ⟨Nat.le_of_ble_eq_true rfl, Nat.le_of_ble_eq_true rfl⟩) rfl rfl (by decide) (fun _ => rfl) rfl hl.1 rfl (Nat.le_of_ble_eq_true rfl) dX4_paid_2 ⟨Nat.le_of_ble_eq_true rfl, Nat.le_of_ble_eq_true rfl⟩ (fun r2 u H locs hw hP hD hS => ?_)
  obtain ⟨rfl, rfl⟩ := hw
  have hP : va_P D vwCl (wM a cI cZ (pt (M) 0 0 0)) H := hP
  have hD : va_D A (wM a cI cZ (pt (M) 0 0 0)) := hD
  refine lv_if_eq (tgt := 12) hx hb dX4_paid_5 (by decide) (fun c5 => ?_) (fun c5 => ?_)
  · -- 5 taken
    refine lv_aload_n hx hb dX4_paid_12 rfl (lv_at hl 0 rfl) ?_
    refine va_get (D := D) (ci := 4) (v := .ref (a 7)) (C := RX4) (T := TX4) (N := 24) hx hb hts (fun w h => List.mem_cons_of_mem _ (List.mem_append_right _ h)) hown hK hP 0 rfl rfl 9 (by decide) (hts (.fieldLink RX4 28 "CashAllocatorModel" "paidOf" "[I") (by decide +kernel)) (fun _ h9 => h9) rfl dX4_paid_13 ?_
    refine lv_iload_n hx hb dX4_paid_16 rfl (lv_at hl 1 rfl) ?_
    refine zald hx hb hK hP 7 (n := 40) (f := ((pt (M) 0 0 0) 9)) rfl (i) rfl (by omega) (by decide) dX4_paid_17 ?_
    exact W.iret (v := (pt (M) 0 0 0) 9 (i)) hx hb hr (fun t ht hW => ⟨⟨(pt (M) 0 0 0) 9 (i), (pt (M) 0 0 0), rfl, ⟨rfl, rfl⟩, by rw [ht]; exact hP, va_K.moved hW.alike hK, hD⟩, hS.F ht⟩) hS.2.2 dX4_paid_18
  · -- 5 on
    exact absurd c5 (by decide)
set_option maxHeartbeats 4000000 in
set_option maxRecDepth 100000 in
theorem c_X4_paid_k (l : Launch) (D : va_G) (cI cZ : ClassId) (a : Nat → Nat) (sz : Nat) (M : Nat → Nat → Int32) (n : Nat) (vx : Int32) (hM : M 2 0 = nI n) (hn : n ≤ 40) (h : ¬ (¬ vx < 0 ∧ vx < nI n)) : Met l yX4_paid wsX4_paid ({ frames := 3, cells := 0, slots := 0, locals := 64 } : Room) (va_Pc [.ref (a 0), .int (vx)] (PreW D cI cZ (wM a cI cZ M) sz)) (va_Qi (fun (r : Int32) (u : Nat → Nat → Int32) => r = 0 ∧ u = pt M 0 0 1) (fun (u : Nat → Nat → Int32) => PostW D cI cZ (va_A (wM a cI cZ M) sz) (wM a cI cZ u)) (va_A (wM a cI cZ M) sz)) 0 0 (va_A (wM a cI cZ M) sz) := by
  refine Met.ofW (cc := cX4_paid) (maxL := 2) (ret := (some .int)) (by decide) rfl ?_
  intro p e s m args below meth c s₁ BB hml hv
  obtain ⟨rfl, hsz, hP, hK, hD0⟩ := hv
  have hx := BB.exec
  have hb := BB.bytes
  have hr := BB.returns
  have hts := atoms_spec (ws := wsX4_paid) BB.pre
  have hown : s.vm.findClass RX4 = some m.cls := findClass_of_methodNamed BB.named
  have hlocks := BB.notSynchronized
  clear BB
  subst hsz
  have hD := hD0.self (sz := s.heap.size)
  clear hD0
  generalize hAe : va_A (wM a cI cZ M) s.heap.size = A at hD ⊢
  have hA : ∀ q : Nat, s.heap.size ≤ q → A q := fun q h => by rw [← hAe]; exact Or.inr h
  clear hAe
  have hS : va_S A s.heap s.heap [] := va_S.rf
  have hl := lv_entry ([.ref (a 0), .int (vx)]) (n := 2) (Nat.le_of_ble_eq_true rfl)
  rw [lg_entry_eq]
  generalize (lg_sl ([.ref (a 0), .int (vx)]) ++ List.replicate (2 - (lg_sl ([.ref (a 0), .int (vx)])).length) Slot.unset).toArray = ls at hl ⊢
  have hl : lv_has ls 2 [(0, .ref (a 0)), (1, .int (vx))] := hl
  generalize hHe : s.heap = H at hP
  have hS : va_S A s.heap H [] := by rw [← hHe]; exact va_S.rf
  clear hHe
  generalize hLe : ([] : List Loc) = locs at hS ⊢
  clear hLe
  refine lv_aload_n hx hb dX4_paid_0 rfl (lv_at hl 0 rfl) ?_
  refine lv_iload_n hx hb dX4_paid_1 rfl (lv_at hl 1 rfl) ?_
  refine zcVi (ci := 4) (q0 := 0) (wf := (fun (u : Nat → Nat → Int32) => (wM a cI cZ u))) (List.range 21) ⟨hx, hb, hml, hown, hts⟩ (zwAll 21 (by decide) rfl hP hD hS hA) hK (c_X4_noBill_k l D cI cZ a H.size (M) (n) (vx) (by first | assumption | omega) (by first | assumption | omega) h) (cwV 1 hts gX4_paid_X4_noBill rfl rfl rfl (by decide +kernel) ⟨Nat.le_of_ble_eq_true rfl, Nat.le_of_ble_eq_true rfl⟩) rfl rfl (by decide) (fun _ => rfl) rfl hl.1 rfl (Nat.le_of_ble_eq_true rfl) dX4_paid_2 ⟨Nat.le_of_ble_eq_true rfl, Nat.le_of_ble_eq_true rfl⟩ (fun r2 u H locs hw hP hD hS => ?_)
  obtain ⟨rfl, rfl⟩ := hw
  have hP : va_P D vwCl (wM a cI cZ (pt (M) 0 0 1)) H := hP
  have hD : va_D A (wM a cI cZ (pt (M) 0 0 1)) := hD
  refine lv_if_eq (tgt := 12) hx hb dX4_paid_5 (by decide) (fun c5 => ?_) (fun c5 => ?_)
  · -- 5 taken
    exact absurd c5 (by decide)
  · -- 5 on
    refine lv_iconst (v := 0) hx hb dX4_paid_8 (by decide) ?_
    refine lv_goto (tgt := 18) hx hb dX4_paid_9 (by decide) ?_
    exact W.iret (v := 0) hx hb hr (fun t ht hW => ⟨⟨0, (pt (M) 0 0 1), rfl, ⟨rfl, rfl⟩, by rw [ht]; exact hP, va_K.moved hW.alike hK, hD⟩, hS.F ht⟩) hS.2.2 dX4_paid_18
set_option maxHeartbeats 4000000 in
set_option maxRecDepth 100000 in
theorem c_X4_taken_0 (l : Launch) (D : va_G) (cI cZ : ClassId) (a : Nat → Nat) (sz : Nat) (M : Nat → Nat → Int32) (n : Nat) (i : Nat) (hM : M 2 0 = nI n) (hn : n ≤ 40) (hbn : i < n) : Met l yX4_taken wsX4_taken ({ frames := 3, cells := 0, slots := 0, locals := 64 } : Room) (va_Pc [.ref (a 0), .int (nI (i))] (PreW D cI cZ (wM a cI cZ M) sz)) (va_Qi (fun (r : Int32) (u : Nat → Nat → Int32) => r = M 10 i ∧ u = pt M 0 0 0) (fun (u : Nat → Nat → Int32) => PostW D cI cZ (va_A (wM a cI cZ M) sz) (wM a cI cZ u)) (va_A (wM a cI cZ M) sz)) 0 0 (va_A (wM a cI cZ M) sz) := by
  refine Met.ofW (cc := cX4_taken) (maxL := 2) (ret := (some .int)) (by decide) rfl ?_
  intro p e s m args below meth c s₁ BB hml hv
  obtain ⟨rfl, hsz, hP, hK, hD0⟩ := hv
  have hx := BB.exec
  have hb := BB.bytes
  have hr := BB.returns
  have hts := atoms_spec (ws := wsX4_taken) BB.pre
  have hown : s.vm.findClass RX4 = some m.cls := findClass_of_methodNamed BB.named
  have hlocks := BB.notSynchronized
  clear BB
  subst hsz
  have hD := hD0.self (sz := s.heap.size)
  clear hD0
  generalize hAe : va_A (wM a cI cZ M) s.heap.size = A at hD ⊢
  have hA : ∀ q : Nat, s.heap.size ≤ q → A q := fun q h => by rw [← hAe]; exact Or.inr h
  clear hAe
  have hS : va_S A s.heap s.heap [] := va_S.rf
  have hl := lv_entry ([.ref (a 0), .int (nI (i))]) (n := 2) (Nat.le_of_ble_eq_true rfl)
  rw [lg_entry_eq]
  generalize (lg_sl ([.ref (a 0), .int (nI (i))]) ++ List.replicate (2 - (lg_sl ([.ref (a 0), .int (nI (i))])).length) Slot.unset).toArray = ls at hl ⊢
  have hl : lv_has ls 2 [(0, .ref (a 0)), (1, .int (nI (i)))] := hl
  generalize hHe : s.heap = H at hP
  have hS : va_S A s.heap H [] := by rw [← hHe]; exact va_S.rf
  clear hHe
  generalize hLe : ([] : List Loc) = locs at hS ⊢
  clear hLe
  refine lv_aload_n hx hb dX4_taken_0 rfl (lv_at hl 0 rfl) ?_
  refine lv_iload_n hx hb dX4_taken_1 rfl (lv_at hl 1 rfl) ?_
  refine zcVi (ci := 4) (q0 := 0) (wf := (fun (u : Nat → Nat → Int32) => (wM a cI cZ u))) (List.range 21) ⟨hx, hb, hml, hown, hts⟩ (zwAll 21 (by decide) rfl hP hD hS hA) hK (c_X4_noBill_0 l D cI cZ a H.size (M) (n) (nI (i)) (by first | assumption | omega) (by first | assumption | omega) ⟨nI_pos (by omega), (nI_ltI (by omega) (by omega)).mpr hbn⟩) (cwV 1 hts gX4_taken_X4_noBill rfl rfl rfl (by decide +kernel) ⟨Nat.le_of_ble_eq_true rfl, Nat.le_of_ble_eq_true rfl⟩) rfl rfl (by decide) (fun _ => rfl) rfl hl.1 rfl (Nat.le_of_ble_eq_true rfl) dX4_taken_2 ⟨Nat.le_of_ble_eq_true rfl, Nat.le_of_ble_eq_true rfl⟩ (fun r2 u H locs hw hP hD hS => ?_)
  obtain ⟨rfl, rfl⟩ := hw
  have hP : va_P D vwCl (wM a cI cZ (pt (M) 0 0 0)) H := hP
  have hD : va_D A (wM a cI cZ (pt (M) 0 0 0)) := hD
  refine lv_if_eq (tgt := 12) hx hb dX4_taken_5 (by decide) (fun c5 => ?_) (fun c5 => ?_)
  · -- 5 taken
    refine lv_aload_n hx hb dX4_taken_12 rfl (lv_at hl 0 rfl) ?_
    refine va_get (D := D) (ci := 4) (v := .ref (a 8)) (C := RX4) (T := TX4) (N := 24) hx hb hts (fun w h => List.mem_cons_of_mem _ (List.mem_append_right _ h)) hown hK hP 0 rfl rfl 10 (by decide) (hts (.fieldLink RX4 31 "CashAllocatorModel" "takenOf" "[I") (by decide +kernel)) (fun _ h9 => h9) rfl dX4_taken_13 ?_
    refine lv_iload_n hx hb dX4_taken_16 rfl (lv_at hl 1 rfl) ?_
    refine zald hx hb hK hP 8 (n := 40) (f := ((pt (M) 0 0 0) 10)) rfl (i) rfl (by omega) (by decide) dX4_taken_17 ?_
    exact W.iret (v := (pt (M) 0 0 0) 10 (i)) hx hb hr (fun t ht hW => ⟨⟨(pt (M) 0 0 0) 10 (i), (pt (M) 0 0 0), rfl, ⟨rfl, rfl⟩, by rw [ht]; exact hP, va_K.moved hW.alike hK, hD⟩, hS.F ht⟩) hS.2.2 dX4_taken_18
  · -- 5 on
    exact absurd c5 (by decide)
set_option maxHeartbeats 4000000 in
set_option maxRecDepth 100000 in
theorem c_X4_taken_k (l : Launch) (D : va_G) (cI cZ : ClassId) (a : Nat → Nat) (sz : Nat) (M : Nat → Nat → Int32) (n : Nat) (vx : Int32) (hM : M 2 0 = nI n) (hn : n ≤ 40) (h : ¬ (¬ vx < 0 ∧ vx < nI n)) : Met l yX4_taken wsX4_taken ({ frames := 3, cells := 0, slots := 0, locals := 64 } : Room) (va_Pc [.ref (a 0), .int (vx)] (PreW D cI cZ (wM a cI cZ M) sz)) (va_Qi (fun (r : Int32) (u : Nat → Nat → Int32) => r = 0 ∧ u = pt M 0 0 1) (fun (u : Nat → Nat → Int32) => PostW D cI cZ (va_A (wM a cI cZ M) sz) (wM a cI cZ u)) (va_A (wM a cI cZ M) sz)) 0 0 (va_A (wM a cI cZ M) sz) := by
  refine Met.ofW (cc := cX4_taken) (maxL := 2) (ret := (some .int)) (by decide) rfl ?_
  intro p e s m args below meth c s₁ BB hml hv
  obtain ⟨rfl, hsz, hP, hK, hD0⟩ := hv
  have hx := BB.exec
  have hb := BB.bytes
  have hr := BB.returns
  have hts := atoms_spec (ws := wsX4_taken) BB.pre
  have hown : s.vm.findClass RX4 = some m.cls := findClass_of_methodNamed BB.named
  have hlocks := BB.notSynchronized
  clear BB
  subst hsz
  have hD := hD0.self (sz := s.heap.size)
  clear hD0
  generalize hAe : va_A (wM a cI cZ M) s.heap.size = A at hD ⊢
  have hA : ∀ q : Nat, s.heap.size ≤ q → A q := fun q h => by rw [← hAe]; exact Or.inr h
  clear hAe
  have hS : va_S A s.heap s.heap [] := va_S.rf
  have hl := lv_entry ([.ref (a 0), .int (vx)]) (n := 2) (Nat.le_of_ble_eq_true rfl)
  rw [lg_entry_eq]
  generalize (lg_sl ([.ref (a 0), .int (vx)]) ++ List.replicate (2 - (lg_sl ([.ref (a 0), .int (vx)])).length) Slot.unset).toArray = ls at hl ⊢
  have hl : lv_has ls 2 [(0, .ref (a 0)), (1, .int (vx))] := hl
  generalize hHe : s.heap = H at hP
  have hS : va_S A s.heap H [] := by rw [← hHe]; exact va_S.rf
  clear hHe
  generalize hLe : ([] : List Loc) = locs at hS ⊢
  clear hLe
  refine lv_aload_n hx hb dX4_taken_0 rfl (lv_at hl 0 rfl) ?_
  refine lv_iload_n hx hb dX4_taken_1 rfl (lv_at hl 1 rfl) ?_
  refine zcVi (ci := 4) (q0 := 0) (wf := (fun (u : Nat → Nat → Int32) => (wM a cI cZ u))) (List.range 21) ⟨hx, hb, hml, hown, hts⟩ (zwAll 21 (by decide) rfl hP hD hS hA) hK (c_X4_noBill_k l D cI cZ a H.size (M) (n) (vx) (by first | assumption | omega) (by first | assumption | omega) h) (cwV 1 hts gX4_taken_X4_noBill rfl rfl rfl (by decide +kernel) ⟨Nat.le_of_ble_eq_true rfl, Nat.le_of_ble_eq_true rfl⟩) rfl rfl (by decide) (fun _ => rfl) rfl hl.1 rfl (Nat.le_of_ble_eq_true rfl) dX4_taken_2 ⟨Nat.le_of_ble_eq_true rfl, Nat.le_of_ble_eq_true rfl⟩ (fun r2 u H locs hw hP hD hS => ?_)
  obtain ⟨rfl, rfl⟩ := hw
  have hP : va_P D vwCl (wM a cI cZ (pt (M) 0 0 1)) H := hP
  have hD : va_D A (wM a cI cZ (pt (M) 0 0 1)) := hD
  refine lv_if_eq (tgt := 12) hx hb dX4_taken_5 (by decide) (fun c5 => ?_) (fun c5 => ?_)
  · -- 5 taken
    exact absurd c5 (by decide)
  · -- 5 on
    refine lv_iconst (v := 0) hx hb dX4_taken_8 (by decide) ?_
    refine lv_goto (tgt := 18) hx hb dX4_taken_9 (by decide) ?_
    exact W.iret (v := 0) hx hb hr (fun t ht hW => ⟨⟨0, (pt (M) 0 0 1), rfl, ⟨rfl, rfl⟩, by rw [ht]; exact hP, va_K.moved hW.alike hK, hD⟩, hS.F ht⟩) hS.2.2 dX4_taken_18
set_option maxHeartbeats 4000000 in
set_option maxRecDepth 100000 in
theorem c_X4_disputed_0 (l : Launch) (D : va_G) (cI cZ : ClassId) (a : Nat → Nat) (sz : Nat) (M : Nat → Nat → Int32) (n : Nat) (i : Nat) (hM : M 2 0 = nI n) (hn : n ≤ 40) (hbn : i < n) : Met l yX4_disputed wsX4_disputed ({ frames := 3, cells := 0, slots := 0, locals := 64 } : Room) (va_Pc [.ref (a 0), .int (nI (i))] (PreW D cI cZ (wM a cI cZ M) sz)) (va_Qi (fun (r : Int32) (u : Nat → Nat → Int32) => r = M 12 i ∧ u = pt M 0 0 0) (fun (u : Nat → Nat → Int32) => PostW D cI cZ (va_A (wM a cI cZ M) sz) (wM a cI cZ u)) (va_A (wM a cI cZ M) sz)) 0 0 (va_A (wM a cI cZ M) sz) := by
  refine Met.ofW (cc := cX4_disputed) (maxL := 2) (ret := (some .int)) (by decide) rfl ?_
  intro p e s m args below meth c s₁ BB hml hv
  obtain ⟨rfl, hsz, hP, hK, hD0⟩ := hv
  have hx := BB.exec
  have hb := BB.bytes
  have hr := BB.returns
  have hts := atoms_spec (ws := wsX4_disputed) BB.pre
  have hown : s.vm.findClass RX4 = some m.cls := findClass_of_methodNamed BB.named
  have hlocks := BB.notSynchronized
  clear BB
  subst hsz
  have hD := hD0.self (sz := s.heap.size)
  clear hD0
  generalize hAe : va_A (wM a cI cZ M) s.heap.size = A at hD ⊢
  have hA : ∀ q : Nat, s.heap.size ≤ q → A q := fun q h => by rw [← hAe]; exact Or.inr h
  clear hAe
  have hS : va_S A s.heap s.heap [] := va_S.rf
  have hl := lv_entry ([.ref (a 0), .int (nI (i))]) (n := 2) (Nat.le_of_ble_eq_true rfl)
  rw [lg_entry_eq]
  generalize (lg_sl ([.ref (a 0), .int (nI (i))]) ++ List.replicate (2 - (lg_sl ([.ref (a 0), .int (nI (i))])).length) Slot.unset).toArray = ls at hl ⊢
  have hl : lv_has ls 2 [(0, .ref (a 0)), (1, .int (nI (i)))] := hl
  generalize hHe : s.heap = H at hP
  have hS : va_S A s.heap H [] := by rw [← hHe]; exact va_S.rf
  clear hHe
  generalize hLe : ([] : List Loc) = locs at hS ⊢
  clear hLe
  refine lv_aload_n hx hb dX4_disputed_0 rfl (lv_at hl 0 rfl) ?_
  refine lv_iload_n hx hb dX4_disputed_1 rfl (lv_at hl 1 rfl) ?_
  refine zcVi (ci := 4) (q0 := 0) (wf := (fun (u : Nat → Nat → Int32) => (wM a cI cZ u))) (List.range 21) ⟨hx, hb, hml, hown, hts⟩ (zwAll 21 (by decide) rfl hP hD hS hA) hK (c_X4_noBill_0 l D cI cZ a H.size (M) (n) (nI (i)) (by first | assumption | omega) (by first | assumption | omega) ⟨nI_pos (by omega), (nI_ltI (by omega) (by omega)).mpr hbn⟩) (cwV 1 hts gX4_disputed_X4_noBill rfl rfl rfl (by decide +kernel) ⟨Nat.le_of_ble_eq_true rfl, Nat.le_of_ble_eq_true rfl⟩) rfl rfl (by decide) (fun _ => rfl) rfl hl.1 rfl (Nat.le_of_ble_eq_true rfl) dX4_disputed_2 ⟨Nat.le_of_ble_eq_true rfl, Nat.le_of_ble_eq_true rfl⟩ (fun r2 u H locs hw hP hD hS => ?_)
  obtain ⟨rfl, rfl⟩ := hw
  have hP : va_P D vwCl (wM a cI cZ (pt (M) 0 0 0)) H := hP
  have hD : va_D A (wM a cI cZ (pt (M) 0 0 0)) := hD
  refine lv_if_eq (tgt := 12) hx hb dX4_disputed_5 (by decide) (fun c5 => ?_) (fun c5 => ?_)
  · -- 5 taken
    refine lv_aload_n hx hb dX4_disputed_12 rfl (lv_at hl 0 rfl) ?_
    refine va_get (D := D) (ci := 4) (v := .ref (a 10)) (C := RX4) (T := TX4) (N := 24) hx hb hts (fun w h => List.mem_cons_of_mem _ (List.mem_append_right _ h)) hown hK hP 0 rfl rfl 12 (by decide) (hts (.fieldLink RX4 37 "CashAllocatorModel" "disputedOf" "[I") (by decide +kernel)) (fun _ h9 => h9) rfl dX4_disputed_13 ?_
    refine lv_iload_n hx hb dX4_disputed_16 rfl (lv_at hl 1 rfl) ?_
    refine zald hx hb hK hP 10 (n := 40) (f := ((pt (M) 0 0 0) 12)) rfl (i) rfl (by omega) (by decide) dX4_disputed_17 ?_
    exact W.iret (v := (pt (M) 0 0 0) 12 (i)) hx hb hr (fun t ht hW => ⟨⟨(pt (M) 0 0 0) 12 (i), (pt (M) 0 0 0), rfl, ⟨rfl, rfl⟩, by rw [ht]; exact hP, va_K.moved hW.alike hK, hD⟩, hS.F ht⟩) hS.2.2 dX4_disputed_18
  · -- 5 on
    exact absurd c5 (by decide)
set_option maxHeartbeats 4000000 in
set_option maxRecDepth 100000 in
theorem c_X4_disputed_k (l : Launch) (D : va_G) (cI cZ : ClassId) (a : Nat → Nat) (sz : Nat) (M : Nat → Nat → Int32) (n : Nat) (vx : Int32) (hM : M 2 0 = nI n) (hn : n ≤ 40) (h : ¬ (¬ vx < 0 ∧ vx < nI n)) : Met l yX4_disputed wsX4_disputed ({ frames := 3, cells := 0, slots := 0, locals := 64 } : Room) (va_Pc [.ref (a 0), .int (vx)] (PreW D cI cZ (wM a cI cZ M) sz)) (va_Qi (fun (r : Int32) (u : Nat → Nat → Int32) => r = 0 ∧ u = pt M 0 0 1) (fun (u : Nat → Nat → Int32) => PostW D cI cZ (va_A (wM a cI cZ M) sz) (wM a cI cZ u)) (va_A (wM a cI cZ M) sz)) 0 0 (va_A (wM a cI cZ M) sz) := by
  refine Met.ofW (cc := cX4_disputed) (maxL := 2) (ret := (some .int)) (by decide) rfl ?_
  intro p e s m args below meth c s₁ BB hml hv
  obtain ⟨rfl, hsz, hP, hK, hD0⟩ := hv
  have hx := BB.exec
  have hb := BB.bytes
  have hr := BB.returns
  have hts := atoms_spec (ws := wsX4_disputed) BB.pre
  have hown : s.vm.findClass RX4 = some m.cls := findClass_of_methodNamed BB.named
  have hlocks := BB.notSynchronized
  clear BB
  subst hsz
  have hD := hD0.self (sz := s.heap.size)
  clear hD0
  generalize hAe : va_A (wM a cI cZ M) s.heap.size = A at hD ⊢
  have hA : ∀ q : Nat, s.heap.size ≤ q → A q := fun q h => by rw [← hAe]; exact Or.inr h
  clear hAe
  have hS : va_S A s.heap s.heap [] := va_S.rf
  have hl := lv_entry ([.ref (a 0), .int (vx)]) (n := 2) (Nat.le_of_ble_eq_true rfl)
  rw [lg_entry_eq]
  generalize (lg_sl ([.ref (a 0), .int (vx)]) ++ List.replicate (2 - (lg_sl ([.ref (a 0), .int (vx)])).length) Slot.unset).toArray = ls at hl ⊢
  have hl : lv_has ls 2 [(0, .ref (a 0)), (1, .int (vx))] := hl
  generalize hHe : s.heap = H at hP
  have hS : va_S A s.heap H [] := by rw [← hHe]; exact va_S.rf
  clear hHe
  generalize hLe : ([] : List Loc) = locs at hS ⊢
  clear hLe
  refine lv_aload_n hx hb dX4_disputed_0 rfl (lv_at hl 0 rfl) ?_
  refine lv_iload_n hx hb dX4_disputed_1 rfl (lv_at hl 1 rfl) ?_
  refine zcVi (ci := 4) (q0 := 0) (wf := (fun (u : Nat → Nat → Int32) => (wM a cI cZ u))) (List.range 21) ⟨hx, hb, hml, hown, hts⟩ (zwAll 21 (by decide) rfl hP hD hS hA) hK (c_X4_noBill_k l D cI cZ a H.size (M) (n) (vx) (by first | assumption | omega) (by first | assumption | omega) h) (cwV 1 hts gX4_disputed_X4_noBill rfl rfl rfl (by decide +kernel) ⟨Nat.le_of_ble_eq_true rfl, Nat.le_of_ble_eq_true rfl⟩) rfl rfl (by decide) (fun _ => rfl) rfl hl.1 rfl (Nat.le_of_ble_eq_true rfl) dX4_disputed_2 ⟨Nat.le_of_ble_eq_true rfl, Nat.le_of_ble_eq_true rfl⟩ (fun r2 u H locs hw hP hD hS => ?_)
  obtain ⟨rfl, rfl⟩ := hw
  have hP : va_P D vwCl (wM a cI cZ (pt (M) 0 0 1)) H := hP
  have hD : va_D A (wM a cI cZ (pt (M) 0 0 1)) := hD
  refine lv_if_eq (tgt := 12) hx hb dX4_disputed_5 (by decide) (fun c5 => ?_) (fun c5 => ?_)
  · -- 5 taken
    exact absurd c5 (by decide)
  · -- 5 on
    refine lv_iconst (v := 0) hx hb dX4_disputed_8 (by decide) ?_
    refine lv_goto (tgt := 18) hx hb dX4_disputed_9 (by decide) ?_
    exact W.iret (v := 0) hx hb hr (fun t ht hW => ⟨⟨0, (pt (M) 0 0 1), rfl, ⟨rfl, rfl⟩, by rw [ht]; exact hP, va_K.moved hW.alike hK, hD⟩, hS.F ht⟩) hS.2.2 dX4_disputed_18
set_option maxHeartbeats 4000000 in
set_option maxRecDepth 100000 in
theorem c_X4_writtenOff_0 (l : Launch) (D : va_G) (cI cZ : ClassId) (a : Nat → Nat) (sz : Nat) (M : Nat → Nat → Int32) (n : Nat) (i : Nat) (hM : M 2 0 = nI n) (hn : n ≤ 40) (hbn : i < n) : Met l yX4_writtenOff wsX4_writtenOff ({ frames := 3, cells := 0, slots := 0, locals := 64 } : Room) (va_Pc [.ref (a 0), .int (nI (i))] (PreW D cI cZ (wM a cI cZ M) sz)) (va_Qi (fun (r : Int32) (u : Nat → Nat → Int32) => r = M 14 i ∧ u = pt M 0 0 0) (fun (u : Nat → Nat → Int32) => PostW D cI cZ (va_A (wM a cI cZ M) sz) (wM a cI cZ u)) (va_A (wM a cI cZ M) sz)) 0 0 (va_A (wM a cI cZ M) sz) := by
  refine Met.ofW (cc := cX4_writtenOff) (maxL := 2) (ret := (some .int)) (by decide) rfl ?_
  intro p e s m args below meth c s₁ BB hml hv
  obtain ⟨rfl, hsz, hP, hK, hD0⟩ := hv
  have hx := BB.exec
  have hb := BB.bytes
  have hr := BB.returns
  have hts := atoms_spec (ws := wsX4_writtenOff) BB.pre
  have hown : s.vm.findClass RX4 = some m.cls := findClass_of_methodNamed BB.named
  have hlocks := BB.notSynchronized
  clear BB
  subst hsz
  have hD := hD0.self (sz := s.heap.size)
  clear hD0
  generalize hAe : va_A (wM a cI cZ M) s.heap.size = A at hD ⊢
  have hA : ∀ q : Nat, s.heap.size ≤ q → A q := fun q h => by rw [← hAe]; exact Or.inr h
  clear hAe
  have hS : va_S A s.heap s.heap [] := va_S.rf
  have hl := lv_entry ([.ref (a 0), .int (nI (i))]) (n := 2) (Nat.le_of_ble_eq_true rfl)
  rw [lg_entry_eq]
  generalize (lg_sl ([.ref (a 0), .int (nI (i))]) ++ List.replicate (2 - (lg_sl ([.ref (a 0), .int (nI (i))])).length) Slot.unset).toArray = ls at hl ⊢
  have hl : lv_has ls 2 [(0, .ref (a 0)), (1, .int (nI (i)))] := hl
  generalize hHe : s.heap = H at hP
  have hS : va_S A s.heap H [] := by rw [← hHe]; exact va_S.rf
  clear hHe
  generalize hLe : ([] : List Loc) = locs at hS ⊢
  clear hLe
  refine lv_aload_n hx hb dX4_writtenOff_0 rfl (lv_at hl 0 rfl) ?_
  refine lv_iload_n hx hb dX4_writtenOff_1 rfl (lv_at hl 1 rfl) ?_
  refine zcVi (ci := 4) (q0 := 0) (wf := (fun (u : Nat → Nat → Int32) => (wM a cI cZ u))) (List.range 21) ⟨hx, hb, hml, hown, hts⟩ (zwAll 21 (by decide) rfl hP hD hS hA) hK (c_X4_noBill_0 l D cI cZ a H.size (M) (n) (nI (i)) (by first | assumption | omega) (by first | assumption | omega) ⟨nI_pos (by omega), (nI_ltI (by omega) (by omega)).mpr hbn⟩) (cwV 1 hts gX4_writtenOff_X4_noBill rfl rfl rfl (by decide +kernel) ⟨Nat.le_of_ble_eq_true rfl, Nat.le_of_ble_eq_true rfl⟩) rfl rfl (by decide) (fun _ => rfl) rfl hl.1 rfl (Nat.le_of_ble_eq_true rfl) dX4_writtenOff_2 ⟨Nat.le_of_ble_eq_true rfl, Nat.le_of_ble_eq_true rfl⟩ (fun r2 u H locs hw hP hD hS => ?_)
  obtain ⟨rfl, rfl⟩ := hw
  have hP : va_P D vwCl (wM a cI cZ (pt (M) 0 0 0)) H := hP
  have hD : va_D A (wM a cI cZ (pt (M) 0 0 0)) := hD
  refine lv_if_eq (tgt := 12) hx hb dX4_writtenOff_5 (by decide) (fun c5 => ?_) (fun c5 => ?_)
  · -- 5 taken
    refine lv_aload_n hx hb dX4_writtenOff_12 rfl (lv_at hl 0 rfl) ?_
    refine va_get (D := D) (ci := 4) (v := .ref (a 12)) (C := RX4) (T := TX4) (N := 24) hx hb hts (fun w h => List.mem_cons_of_mem _ (List.mem_append_right _ h)) hown hK hP 0 rfl rfl 14 (by decide) (hts (.fieldLink RX4 43 "CashAllocatorModel" "writtenOf" "[I") (by decide +kernel)) (fun _ h9 => h9) rfl dX4_writtenOff_13 ?_
    refine lv_iload_n hx hb dX4_writtenOff_16 rfl (lv_at hl 1 rfl) ?_
    refine zald hx hb hK hP 12 (n := 40) (f := ((pt (M) 0 0 0) 14)) rfl (i) rfl (by omega) (by decide) dX4_writtenOff_17 ?_
    exact W.iret (v := (pt (M) 0 0 0) 14 (i)) hx hb hr (fun t ht hW => ⟨⟨(pt (M) 0 0 0) 14 (i), (pt (M) 0 0 0), rfl, ⟨rfl, rfl⟩, by rw [ht]; exact hP, va_K.moved hW.alike hK, hD⟩, hS.F ht⟩) hS.2.2 dX4_writtenOff_18
  · -- 5 on
    exact absurd c5 (by decide)
set_option maxHeartbeats 4000000 in
set_option maxRecDepth 100000 in
theorem c_X4_writtenOff_k (l : Launch) (D : va_G) (cI cZ : ClassId) (a : Nat → Nat) (sz : Nat) (M : Nat → Nat → Int32) (n : Nat) (vx : Int32) (hM : M 2 0 = nI n) (hn : n ≤ 40) (h : ¬ (¬ vx < 0 ∧ vx < nI n)) : Met l yX4_writtenOff wsX4_writtenOff ({ frames := 3, cells := 0, slots := 0, locals := 64 } : Room) (va_Pc [.ref (a 0), .int (vx)] (PreW D cI cZ (wM a cI cZ M) sz)) (va_Qi (fun (r : Int32) (u : Nat → Nat → Int32) => r = 0 ∧ u = pt M 0 0 1) (fun (u : Nat → Nat → Int32) => PostW D cI cZ (va_A (wM a cI cZ M) sz) (wM a cI cZ u)) (va_A (wM a cI cZ M) sz)) 0 0 (va_A (wM a cI cZ M) sz) := by
  refine Met.ofW (cc := cX4_writtenOff) (maxL := 2) (ret := (some .int)) (by decide) rfl ?_
  intro p e s m args below meth c s₁ BB hml hv
  obtain ⟨rfl, hsz, hP, hK, hD0⟩ := hv
  have hx := BB.exec
  have hb := BB.bytes
  have hr := BB.returns
  have hts := atoms_spec (ws := wsX4_writtenOff) BB.pre
  have hown : s.vm.findClass RX4 = some m.cls := findClass_of_methodNamed BB.named
  have hlocks := BB.notSynchronized
  clear BB
  subst hsz
  have hD := hD0.self (sz := s.heap.size)
  clear hD0
  generalize hAe : va_A (wM a cI cZ M) s.heap.size = A at hD ⊢
  have hA : ∀ q : Nat, s.heap.size ≤ q → A q := fun q h => by rw [← hAe]; exact Or.inr h
  clear hAe
  have hS : va_S A s.heap s.heap [] := va_S.rf
  have hl := lv_entry ([.ref (a 0), .int (vx)]) (n := 2) (Nat.le_of_ble_eq_true rfl)
  rw [lg_entry_eq]
  generalize (lg_sl ([.ref (a 0), .int (vx)]) ++ List.replicate (2 - (lg_sl ([.ref (a 0), .int (vx)])).length) Slot.unset).toArray = ls at hl ⊢
  have hl : lv_has ls 2 [(0, .ref (a 0)), (1, .int (vx))] := hl
  generalize hHe : s.heap = H at hP
  have hS : va_S A s.heap H [] := by rw [← hHe]; exact va_S.rf
  clear hHe
  generalize hLe : ([] : List Loc) = locs at hS ⊢
  clear hLe
  refine lv_aload_n hx hb dX4_writtenOff_0 rfl (lv_at hl 0 rfl) ?_
  refine lv_iload_n hx hb dX4_writtenOff_1 rfl (lv_at hl 1 rfl) ?_
  refine zcVi (ci := 4) (q0 := 0) (wf := (fun (u : Nat → Nat → Int32) => (wM a cI cZ u))) (List.range 21) ⟨hx, hb, hml, hown, hts⟩ (zwAll 21 (by decide) rfl hP hD hS hA) hK (c_X4_noBill_k l D cI cZ a H.size (M) (n) (vx) (by first | assumption | omega) (by first | assumption | omega) h) (cwV 1 hts gX4_writtenOff_X4_noBill rfl rfl rfl (by decide +kernel) ⟨Nat.le_of_ble_eq_true rfl, Nat.le_of_ble_eq_true rfl⟩) rfl rfl (by decide) (fun _ => rfl) rfl hl.1 rfl (Nat.le_of_ble_eq_true rfl) dX4_writtenOff_2 ⟨Nat.le_of_ble_eq_true rfl, Nat.le_of_ble_eq_true rfl⟩ (fun r2 u H locs hw hP hD hS => ?_)
  obtain ⟨rfl, rfl⟩ := hw
  have hP : va_P D vwCl (wM a cI cZ (pt (M) 0 0 1)) H := hP
  have hD : va_D A (wM a cI cZ (pt (M) 0 0 1)) := hD
  refine lv_if_eq (tgt := 12) hx hb dX4_writtenOff_5 (by decide) (fun c5 => ?_) (fun c5 => ?_)
  · -- 5 taken
    exact absurd c5 (by decide)
  · -- 5 on
    refine lv_iconst (v := 0) hx hb dX4_writtenOff_8 (by decide) ?_
    refine lv_goto (tgt := 18) hx hb dX4_writtenOff_9 (by decide) ?_
    exact W.iret (v := 0) hx hb hr (fun t ht hW => ⟨⟨0, (pt (M) 0 0 1), rfl, ⟨rfl, rfl⟩, by rw [ht]; exact hP, va_K.moved hW.alike hK, hD⟩, hS.F ht⟩) hS.2.2 dX4_writtenOff_18
set_option maxHeartbeats 4000000 in
set_option maxRecDepth 100000 in
theorem c_X4_customerOf_0 (l : Launch) (D : va_G) (cI cZ : ClassId) (a : Nat → Nat) (sz : Nat) (M : Nat → Nat → Int32) (q : Nat) (rc : Nat) (hMq : M 15 0 = nI q) (hq : q ≤ 30) (hrq : rc < q) : Met l yX4_customerOf wsX4_customerOf ({ frames := 3, cells := 0, slots := 0, locals := 64 } : Room) (va_Pc [.ref (a 0), .int (nI (rc))] (PreW D cI cZ (wM a cI cZ M) sz)) (va_Qi (fun (r : Int32) (u : Nat → Nat → Int32) => r = M 17 rc ∧ u = pt M 0 0 0) (fun (u : Nat → Nat → Int32) => PostW D cI cZ (va_A (wM a cI cZ M) sz) (wM a cI cZ u)) (va_A (wM a cI cZ M) sz)) 0 0 (va_A (wM a cI cZ M) sz) := by
  refine Met.ofW (cc := cX4_customerOf) (maxL := 2) (ret := (some .int)) (by decide) rfl ?_
  intro p e s m args below meth c s₁ BB hml hv
  obtain ⟨rfl, hsz, hP, hK, hD0⟩ := hv
  have hx := BB.exec
  have hb := BB.bytes
  have hr := BB.returns
  have hts := atoms_spec (ws := wsX4_customerOf) BB.pre
  have hown : s.vm.findClass RX4 = some m.cls := findClass_of_methodNamed BB.named
  have hlocks := BB.notSynchronized
  clear BB
  subst hsz
  have hD := hD0.self (sz := s.heap.size)
  clear hD0
  generalize hAe : va_A (wM a cI cZ M) s.heap.size = A at hD ⊢
  have hA : ∀ q : Nat, s.heap.size ≤ q → A q := fun q h => by rw [← hAe]; exact Or.inr h
  clear hAe
  have hS : va_S A s.heap s.heap [] := va_S.rf
  have hl := lv_entry ([.ref (a 0), .int (nI (rc))]) (n := 2) (Nat.le_of_ble_eq_true rfl)
  rw [lg_entry_eq]
  generalize (lg_sl ([.ref (a 0), .int (nI (rc))]) ++ List.replicate (2 - (lg_sl ([.ref (a 0), .int (nI (rc))])).length) Slot.unset).toArray = ls at hl ⊢
  have hl : lv_has ls 2 [(0, .ref (a 0)), (1, .int (nI (rc)))] := hl
  generalize hHe : s.heap = H at hP
  have hS : va_S A s.heap H [] := by rw [← hHe]; exact va_S.rf
  clear hHe
  generalize hLe : ([] : List Loc) = locs at hS ⊢
  clear hLe
  refine lv_aload_n hx hb dX4_customerOf_0 rfl (lv_at hl 0 rfl) ?_
  refine lv_iload_n hx hb dX4_customerOf_1 rfl (lv_at hl 1 rfl) ?_
  refine zcVi (ci := 4) (q0 := 0) (wf := (fun (u : Nat → Nat → Int32) => (wM a cI cZ u))) (List.range 21) ⟨hx, hb, hml, hown, hts⟩ (zwAll 21 (by decide) rfl hP hD hS hA) hK (c_X4_noReceipt_0 l D cI cZ a H.size (M) (q) (nI (rc)) (by first | assumption | omega) (by first | assumption | omega) ⟨nI_pos (by omega), (nI_ltI (by omega) (by omega)).mpr hrq⟩) (cwV 1 hts gX4_customerOf_X4_noReceipt rfl rfl rfl (by decide +kernel) ⟨Nat.le_of_ble_eq_true rfl, Nat.le_of_ble_eq_true rfl⟩) rfl rfl (by decide) (fun _ => rfl) rfl hl.1 rfl (Nat.le_of_ble_eq_true rfl) dX4_customerOf_2 ⟨Nat.le_of_ble_eq_true rfl, Nat.le_of_ble_eq_true rfl⟩ (fun r2 u H locs hw hP hD hS => ?_)
  obtain ⟨rfl, rfl⟩ := hw
  have hP : va_P D vwCl (wM a cI cZ (pt (M) 0 0 0)) H := hP
  have hD : va_D A (wM a cI cZ (pt (M) 0 0 0)) := hD
  refine lv_if_eq (tgt := 12) hx hb dX4_customerOf_5 (by decide) (fun c5 => ?_) (fun c5 => ?_)
  · -- 5 taken
    refine lv_aload_n hx hb dX4_customerOf_12 rfl (lv_at hl 0 rfl) ?_
    refine va_get (D := D) (ci := 4) (v := .ref (a 14)) (C := RX4) (T := TX4) (N := 24) hx hb hts (fun w h => List.mem_cons_of_mem _ (List.mem_append_right _ h)) hown hK hP 0 rfl rfl 17 (by decide) (hts (.fieldLink RX4 49 "CashAllocatorModel" "payers" "[I") (by decide +kernel)) (fun _ h9 => h9) rfl dX4_customerOf_13 ?_
    refine lv_iload_n hx hb dX4_customerOf_16 rfl (lv_at hl 1 rfl) ?_
    refine zald hx hb hK hP 14 (n := 30) (f := ((pt (M) 0 0 0) 17)) rfl (rc) rfl (by omega) (by decide) dX4_customerOf_17 ?_
    exact W.iret (v := (pt (M) 0 0 0) 17 (rc)) hx hb hr (fun t ht hW => ⟨⟨(pt (M) 0 0 0) 17 (rc), (pt (M) 0 0 0), rfl, ⟨rfl, rfl⟩, by rw [ht]; exact hP, va_K.moved hW.alike hK, hD⟩, hS.F ht⟩) hS.2.2 dX4_customerOf_18
  · -- 5 on
    exact absurd c5 (by decide)
set_option maxHeartbeats 4000000 in
set_option maxRecDepth 100000 in
theorem c_X4_customerOf_k (l : Launch) (D : va_G) (cI cZ : ClassId) (a : Nat → Nat) (sz : Nat) (M : Nat → Nat → Int32) (q : Nat) (vx : Int32) (hMq : M 15 0 = nI q) (hq : q ≤ 30) (h : ¬ (¬ vx < 0 ∧ vx < nI q)) : Met l yX4_customerOf wsX4_customerOf ({ frames := 3, cells := 0, slots := 0, locals := 64 } : Room) (va_Pc [.ref (a 0), .int (vx)] (PreW D cI cZ (wM a cI cZ M) sz)) (va_Qi (fun (r : Int32) (u : Nat → Nat → Int32) => r = 0 ∧ u = pt M 0 0 1) (fun (u : Nat → Nat → Int32) => PostW D cI cZ (va_A (wM a cI cZ M) sz) (wM a cI cZ u)) (va_A (wM a cI cZ M) sz)) 0 0 (va_A (wM a cI cZ M) sz) := by
  refine Met.ofW (cc := cX4_customerOf) (maxL := 2) (ret := (some .int)) (by decide) rfl ?_
  intro p e s m args below meth c s₁ BB hml hv
  obtain ⟨rfl, hsz, hP, hK, hD0⟩ := hv
  have hx := BB.exec
  have hb := BB.bytes
  have hr := BB.returns
  have hts := atoms_spec (ws := wsX4_customerOf) BB.pre
  have hown : s.vm.findClass RX4 = some m.cls := findClass_of_methodNamed BB.named
  have hlocks := BB.notSynchronized
  clear BB
  subst hsz
  have hD := hD0.self (sz := s.heap.size)
  clear hD0
  generalize hAe : va_A (wM a cI cZ M) s.heap.size = A at hD ⊢
  have hA : ∀ q : Nat, s.heap.size ≤ q → A q := fun q h => by rw [← hAe]; exact Or.inr h
  clear hAe
  have hS : va_S A s.heap s.heap [] := va_S.rf
  have hl := lv_entry ([.ref (a 0), .int (vx)]) (n := 2) (Nat.le_of_ble_eq_true rfl)
  rw [lg_entry_eq]
  generalize (lg_sl ([.ref (a 0), .int (vx)]) ++ List.replicate (2 - (lg_sl ([.ref (a 0), .int (vx)])).length) Slot.unset).toArray = ls at hl ⊢
  have hl : lv_has ls 2 [(0, .ref (a 0)), (1, .int (vx))] := hl
  generalize hHe : s.heap = H at hP
  have hS : va_S A s.heap H [] := by rw [← hHe]; exact va_S.rf
  clear hHe
  generalize hLe : ([] : List Loc) = locs at hS ⊢
  clear hLe
  refine lv_aload_n hx hb dX4_customerOf_0 rfl (lv_at hl 0 rfl) ?_
  refine lv_iload_n hx hb dX4_customerOf_1 rfl (lv_at hl 1 rfl) ?_
  refine zcVi (ci := 4) (q0 := 0) (wf := (fun (u : Nat → Nat → Int32) => (wM a cI cZ u))) (List.range 21) ⟨hx, hb, hml, hown, hts⟩ (zwAll 21 (by decide) rfl hP hD hS hA) hK (c_X4_noReceipt_k l D cI cZ a H.size (M) (q) (vx) (by first | assumption | omega) (by first | assumption | omega) h) (cwV 1 hts gX4_customerOf_X4_noReceipt rfl rfl rfl (by decide +kernel) ⟨Nat.le_of_ble_eq_true rfl, Nat.le_of_ble_eq_true rfl⟩) rfl rfl (by decide) (fun _ => rfl) rfl hl.1 rfl (Nat.le_of_ble_eq_true rfl) dX4_customerOf_2 ⟨Nat.le_of_ble_eq_true rfl, Nat.le_of_ble_eq_true rfl⟩ (fun r2 u H locs hw hP hD hS => ?_)
  obtain ⟨rfl, rfl⟩ := hw
  have hP : va_P D vwCl (wM a cI cZ (pt (M) 0 0 1)) H := hP
  have hD : va_D A (wM a cI cZ (pt (M) 0 0 1)) := hD
  refine lv_if_eq (tgt := 12) hx hb dX4_customerOf_5 (by decide) (fun c5 => ?_) (fun c5 => ?_)
  · -- 5 taken
    exact absurd c5 (by decide)
  · -- 5 on
    refine lv_iconst (v := 0) hx hb dX4_customerOf_8 (by decide) ?_
    refine lv_goto (tgt := 18) hx hb dX4_customerOf_9 (by decide) ?_
    exact W.iret (v := 0) hx hb hr (fun t ht hW => ⟨⟨0, (pt (M) 0 0 1), rfl, ⟨rfl, rfl⟩, by rw [ht]; exact hP, va_K.moved hW.alike hK, hD⟩, hS.F ht⟩) hS.2.2 dX4_customerOf_18
set_option maxHeartbeats 4000000 in
set_option maxRecDepth 100000 in
theorem c_X4_unapplied_0 (l : Launch) (D : va_G) (cI cZ : ClassId) (a : Nat → Nat) (sz : Nat) (M : Nat → Nat → Int32) (q : Nat) (rc : Nat) (hMq : M 15 0 = nI q) (hq : q ≤ 30) (hrq : rc < q) : Met l yX4_unapplied wsX4_unapplied ({ frames := 3, cells := 0, slots := 0, locals := 64 } : Room) (va_Pc [.ref (a 0), .int (nI (rc))] (PreW D cI cZ (wM a cI cZ M) sz)) (va_Qi (fun (r : Int32) (u : Nat → Nat → Int32) => r = M 18 rc ∧ u = pt M 0 0 0) (fun (u : Nat → Nat → Int32) => PostW D cI cZ (va_A (wM a cI cZ M) sz) (wM a cI cZ u)) (va_A (wM a cI cZ M) sz)) 0 0 (va_A (wM a cI cZ M) sz) := by
  refine Met.ofW (cc := cX4_unapplied) (maxL := 2) (ret := (some .int)) (by decide) rfl ?_
  intro p e s m args below meth c s₁ BB hml hv
  obtain ⟨rfl, hsz, hP, hK, hD0⟩ := hv
  have hx := BB.exec
  have hb := BB.bytes
  have hr := BB.returns
  have hts := atoms_spec (ws := wsX4_unapplied) BB.pre
  have hown : s.vm.findClass RX4 = some m.cls := findClass_of_methodNamed BB.named
  have hlocks := BB.notSynchronized
  clear BB
  subst hsz
  have hD := hD0.self (sz := s.heap.size)
  clear hD0
  generalize hAe : va_A (wM a cI cZ M) s.heap.size = A at hD ⊢
  have hA : ∀ q : Nat, s.heap.size ≤ q → A q := fun q h => by rw [← hAe]; exact Or.inr h
  clear hAe
  have hS : va_S A s.heap s.heap [] := va_S.rf
  have hl := lv_entry ([.ref (a 0), .int (nI (rc))]) (n := 2) (Nat.le_of_ble_eq_true rfl)
  rw [lg_entry_eq]
  generalize (lg_sl ([.ref (a 0), .int (nI (rc))]) ++ List.replicate (2 - (lg_sl ([.ref (a 0), .int (nI (rc))])).length) Slot.unset).toArray = ls at hl ⊢
  have hl : lv_has ls 2 [(0, .ref (a 0)), (1, .int (nI (rc)))] := hl
  generalize hHe : s.heap = H at hP
  have hS : va_S A s.heap H [] := by rw [← hHe]; exact va_S.rf
  clear hHe
  generalize hLe : ([] : List Loc) = locs at hS ⊢
  clear hLe
  refine lv_aload_n hx hb dX4_unapplied_0 rfl (lv_at hl 0 rfl) ?_
  refine lv_iload_n hx hb dX4_unapplied_1 rfl (lv_at hl 1 rfl) ?_
  refine zcVi (ci := 4) (q0 := 0) (wf := (fun (u : Nat → Nat → Int32) => (wM a cI cZ u))) (List.range 21) ⟨hx, hb, hml, hown, hts⟩ (zwAll 21 (by decide) rfl hP hD hS hA) hK (c_X4_noReceipt_0 l D cI cZ a H.size (M) (q) (nI (rc)) (by first | assumption | omega) (by first | assumption | omega) ⟨nI_pos (by omega), (nI_ltI (by omega) (by omega)).mpr hrq⟩) (cwV 1 hts gX4_unapplied_X4_noReceipt rfl rfl rfl (by decide +kernel) ⟨Nat.le_of_ble_eq_true rfl, Nat.le_of_ble_eq_true rfl⟩) rfl rfl (by decide) (fun _ => rfl) rfl hl.1 rfl (Nat.le_of_ble_eq_true rfl) dX4_unapplied_2 ⟨Nat.le_of_ble_eq_true rfl, Nat.le_of_ble_eq_true rfl⟩ (fun r2 u H locs hw hP hD hS => ?_)
  obtain ⟨rfl, rfl⟩ := hw
  have hP : va_P D vwCl (wM a cI cZ (pt (M) 0 0 0)) H := hP
  have hD : va_D A (wM a cI cZ (pt (M) 0 0 0)) := hD
  refine lv_if_eq (tgt := 12) hx hb dX4_unapplied_5 (by decide) (fun c5 => ?_) (fun c5 => ?_)
  · -- 5 taken
    refine lv_aload_n hx hb dX4_unapplied_12 rfl (lv_at hl 0 rfl) ?_
    refine va_get (D := D) (ci := 4) (v := .ref (a 15)) (C := RX4) (T := TX4) (N := 24) hx hb hts (fun w h => List.mem_cons_of_mem _ (List.mem_append_right _ h)) hown hK hP 0 rfl rfl 18 (by decide) (hts (.fieldLink RX4 52 "CashAllocatorModel" "left" "[I") (by decide +kernel)) (fun _ h9 => h9) rfl dX4_unapplied_13 ?_
    refine lv_iload_n hx hb dX4_unapplied_16 rfl (lv_at hl 1 rfl) ?_
    refine zald hx hb hK hP 15 (n := 30) (f := ((pt (M) 0 0 0) 18)) rfl (rc) rfl (by omega) (by decide) dX4_unapplied_17 ?_
    exact W.iret (v := (pt (M) 0 0 0) 18 (rc)) hx hb hr (fun t ht hW => ⟨⟨(pt (M) 0 0 0) 18 (rc), (pt (M) 0 0 0), rfl, ⟨rfl, rfl⟩, by rw [ht]; exact hP, va_K.moved hW.alike hK, hD⟩, hS.F ht⟩) hS.2.2 dX4_unapplied_18
  · -- 5 on
    exact absurd c5 (by decide)
set_option maxHeartbeats 4000000 in
set_option maxRecDepth 100000 in
theorem c_X4_unapplied_k (l : Launch) (D : va_G) (cI cZ : ClassId) (a : Nat → Nat) (sz : Nat) (M : Nat → Nat → Int32) (q : Nat) (vx : Int32) (hMq : M 15 0 = nI q) (hq : q ≤ 30) (h : ¬ (¬ vx < 0 ∧ vx < nI q)) : Met l yX4_unapplied wsX4_unapplied ({ frames := 3, cells := 0, slots := 0, locals := 64 } : Room) (va_Pc [.ref (a 0), .int (vx)] (PreW D cI cZ (wM a cI cZ M) sz)) (va_Qi (fun (r : Int32) (u : Nat → Nat → Int32) => r = 0 ∧ u = pt M 0 0 1) (fun (u : Nat → Nat → Int32) => PostW D cI cZ (va_A (wM a cI cZ M) sz) (wM a cI cZ u)) (va_A (wM a cI cZ M) sz)) 0 0 (va_A (wM a cI cZ M) sz) := by
  refine Met.ofW (cc := cX4_unapplied) (maxL := 2) (ret := (some .int)) (by decide) rfl ?_
  intro p e s m args below meth c s₁ BB hml hv
  obtain ⟨rfl, hsz, hP, hK, hD0⟩ := hv
  have hx := BB.exec
  have hb := BB.bytes
  have hr := BB.returns
  have hts := atoms_spec (ws := wsX4_unapplied) BB.pre
  have hown : s.vm.findClass RX4 = some m.cls := findClass_of_methodNamed BB.named
  have hlocks := BB.notSynchronized
  clear BB
  subst hsz
  have hD := hD0.self (sz := s.heap.size)
  clear hD0
  generalize hAe : va_A (wM a cI cZ M) s.heap.size = A at hD ⊢
  have hA : ∀ q : Nat, s.heap.size ≤ q → A q := fun q h => by rw [← hAe]; exact Or.inr h
  clear hAe
  have hS : va_S A s.heap s.heap [] := va_S.rf
  have hl := lv_entry ([.ref (a 0), .int (vx)]) (n := 2) (Nat.le_of_ble_eq_true rfl)
  rw [lg_entry_eq]
  generalize (lg_sl ([.ref (a 0), .int (vx)]) ++ List.replicate (2 - (lg_sl ([.ref (a 0), .int (vx)])).length) Slot.unset).toArray = ls at hl ⊢
  have hl : lv_has ls 2 [(0, .ref (a 0)), (1, .int (vx))] := hl
  generalize hHe : s.heap = H at hP
  have hS : va_S A s.heap H [] := by rw [← hHe]; exact va_S.rf
  clear hHe
  generalize hLe : ([] : List Loc) = locs at hS ⊢
  clear hLe
  refine lv_aload_n hx hb dX4_unapplied_0 rfl (lv_at hl 0 rfl) ?_
  refine lv_iload_n hx hb dX4_unapplied_1 rfl (lv_at hl 1 rfl) ?_
  refine zcVi (ci := 4) (q0 := 0) (wf := (fun (u : Nat → Nat → Int32) => (wM a cI cZ u))) (List.range 21) ⟨hx, hb, hml, hown, hts⟩ (zwAll 21 (by decide) rfl hP hD hS hA) hK (c_X4_noReceipt_k l D cI cZ a H.size (M) (q) (vx) (by first | assumption | omega) (by first | assumption | omega) h) (cwV 1 hts gX4_unapplied_X4_noReceipt rfl rfl rfl (by decide +kernel) ⟨Nat.le_of_ble_eq_true rfl, Nat.le_of_ble_eq_true rfl⟩) rfl rfl (by decide) (fun _ => rfl) rfl hl.1 rfl (Nat.le_of_ble_eq_true rfl) dX4_unapplied_2 ⟨Nat.le_of_ble_eq_true rfl, Nat.le_of_ble_eq_true rfl⟩ (fun r2 u H locs hw hP hD hS => ?_)
  obtain ⟨rfl, rfl⟩ := hw
  have hP : va_P D vwCl (wM a cI cZ (pt (M) 0 0 1)) H := hP
  have hD : va_D A (wM a cI cZ (pt (M) 0 0 1)) := hD
  refine lv_if_eq (tgt := 12) hx hb dX4_unapplied_5 (by decide) (fun c5 => ?_) (fun c5 => ?_)
  · -- 5 taken
    exact absurd c5 (by decide)
  · -- 5 on
    refine lv_iconst (v := 0) hx hb dX4_unapplied_8 (by decide) ?_
    refine lv_goto (tgt := 18) hx hb dX4_unapplied_9 (by decide) ?_
    exact W.iret (v := 0) hx hb hr (fun t ht hW => ⟨⟨0, (pt (M) 0 0 1), rfl, ⟨rfl, rfl⟩, by rw [ht]; exact hP, va_K.moved hW.alike hK, hD⟩, hS.F ht⟩) hS.2.2 dX4_unapplied_18
set_option maxHeartbeats 4000000 in
set_option maxRecDepth 100000 in
theorem c_X4_hasBounced_0 (l : Launch) (D : va_G) (cI cZ : ClassId) (a : Nat → Nat) (sz : Nat) (M : Nat → Nat → Int32) (q : Nat) (rc : Nat) (hMq : M 15 0 = nI q) (hq : q ≤ 30) (hrq : rc < q) : Met l yX4_hasBounced wsX4_hasBounced ({ frames := 3, cells := 0, slots := 0, locals := 64 } : Room) (va_Pc [.ref (a 0), .int (nI (rc))] (PreW D cI cZ (wM a cI cZ M) sz)) (va_Qi (fun (r : Int32) (u : Nat → Nat → Int32) => r = b2 (¬ M 20 rc = 0) ∧ u = pt M 0 0 0) (fun (u : Nat → Nat → Int32) => PostW D cI cZ (va_A (wM a cI cZ M) sz) (wM a cI cZ u)) (va_A (wM a cI cZ M) sz)) 0 0 (va_A (wM a cI cZ M) sz) := by
  refine Met.ofW (cc := cX4_hasBounced) (maxL := 2) (ret := (some .boolean)) (by decide) rfl ?_
  intro p e s m args below meth c s₁ BB hml hv
  obtain ⟨rfl, hsz, hP, hK, hD0⟩ := hv
  have hx := BB.exec
  have hb := BB.bytes
  have hr := BB.returns
  have hts := atoms_spec (ws := wsX4_hasBounced) BB.pre
  have hown : s.vm.findClass RX4 = some m.cls := findClass_of_methodNamed BB.named
  have hlocks := BB.notSynchronized
  clear BB
  subst hsz
  have hD := hD0.self (sz := s.heap.size)
  clear hD0
  generalize hAe : va_A (wM a cI cZ M) s.heap.size = A at hD ⊢
  have hA : ∀ q : Nat, s.heap.size ≤ q → A q := fun q h => by rw [← hAe]; exact Or.inr h
  clear hAe
  have hS : va_S A s.heap s.heap [] := va_S.rf
  have hl := lv_entry ([.ref (a 0), .int (nI (rc))]) (n := 2) (Nat.le_of_ble_eq_true rfl)
  rw [lg_entry_eq]
  generalize (lg_sl ([.ref (a 0), .int (nI (rc))]) ++ List.replicate (2 - (lg_sl ([.ref (a 0), .int (nI (rc))])).length) Slot.unset).toArray = ls at hl ⊢
  have hl : lv_has ls 2 [(0, .ref (a 0)), (1, .int (nI (rc)))] := hl
  generalize hHe : s.heap = H at hP
  have hS : va_S A s.heap H [] := by rw [← hHe]; exact va_S.rf
  clear hHe
  generalize hLe : ([] : List Loc) = locs at hS ⊢
  clear hLe
  refine lv_aload_n hx hb dX4_hasBounced_0 rfl (lv_at hl 0 rfl) ?_
  refine lv_iload_n hx hb dX4_hasBounced_1 rfl (lv_at hl 1 rfl) ?_
  refine zcVi (ci := 4) (q0 := 0) (wf := (fun (u : Nat → Nat → Int32) => (wM a cI cZ u))) (List.range 21) ⟨hx, hb, hml, hown, hts⟩ (zwAll 21 (by decide) rfl hP hD hS hA) hK (c_X4_noReceipt_0 l D cI cZ a H.size (M) (q) (nI (rc)) (by first | assumption | omega) (by first | assumption | omega) ⟨nI_pos (by omega), (nI_ltI (by omega) (by omega)).mpr hrq⟩) (cwV 1 hts gX4_hasBounced_X4_noReceipt rfl rfl rfl (by decide +kernel) ⟨Nat.le_of_ble_eq_true rfl, Nat.le_of_ble_eq_true rfl⟩) rfl rfl (by decide) (fun _ => rfl) rfl hl.1 rfl (Nat.le_of_ble_eq_true rfl) dX4_hasBounced_2 ⟨Nat.le_of_ble_eq_true rfl, Nat.le_of_ble_eq_true rfl⟩ (fun r2 u H locs hw hP hD hS => ?_)
  obtain ⟨rfl, rfl⟩ := hw
  have hP : va_P D vwCl (wM a cI cZ (pt (M) 0 0 0)) H := hP
  have hD : va_D A (wM a cI cZ (pt (M) 0 0 0)) := hD
  refine lv_if_ne (tgt := 21) hx hb dX4_hasBounced_5 (by decide) (fun c5 => ?_) (fun c5 => ?_)
  · -- 5 taken
    exact absurd c5 (by decide)
  · -- 5 on
    refine lv_aload_n hx hb dX4_hasBounced_8 rfl (lv_at hl 0 rfl) ?_
    refine va_get (D := D) (ci := 4) (v := .ref (a 17)) (C := RX4) (T := TX4) (N := 24) hx hb hts (fun w h => List.mem_cons_of_mem _ (List.mem_append_right _ h)) hown hK hP 0 rfl rfl 20 (by decide) (hts (.fieldLink RX4 58 "CashAllocatorModel" "isBounced" "[Z") (by decide +kernel)) (fun _ h9 => h9) rfl dX4_hasBounced_9 ?_
    refine lv_iload_n hx hb dX4_hasBounced_12 rfl (lv_at hl 1 rfl) ?_
    refine zbld hx hb hK hP 17 (n := 30) (f := ((pt (M) 0 0 0) 20)) rfl (rc) rfl (by omega) (by decide) dX4_hasBounced_13 ?_
    refine lv_if_eq (tgt := 21) hx hb dX4_hasBounced_14 (by decide) (fun c14 => ?_) (fun c14 => ?_)
    · -- 14 taken
      refine lv_iconst (v := 0) hx hb dX4_hasBounced_21 (by decide) ?_
      exact W.zret (ty := .boolean) (v := 0) hx hb hr (by decide) (fun t ht hW => ⟨⟨0, (pt (M) 0 0 0), rfl, ⟨(if_neg (fun z => z c14)).symm, rfl⟩, by rw [ht]; exact hP, va_K.moved hW.alike hK, hD⟩, hS.F ht⟩) hS.2.2 dX4_hasBounced_22
    · -- 14 on
      refine lv_iconst (v := 1) hx hb dX4_hasBounced_17 (by decide) ?_
      refine lv_goto (tgt := 22) hx hb dX4_hasBounced_18 (by decide) ?_
      exact W.zret (ty := .boolean) (v := 1) hx hb hr (by decide) (fun t ht hW => ⟨⟨1, (pt (M) 0 0 0), rfl, ⟨(if_pos c14).symm, rfl⟩, by rw [ht]; exact hP, va_K.moved hW.alike hK, hD⟩, hS.F ht⟩) hS.2.2 dX4_hasBounced_22
set_option maxHeartbeats 4000000 in
set_option maxRecDepth 100000 in
theorem c_X4_hasBounced_k (l : Launch) (D : va_G) (cI cZ : ClassId) (a : Nat → Nat) (sz : Nat) (M : Nat → Nat → Int32) (q : Nat) (vx : Int32) (hMq : M 15 0 = nI q) (hq : q ≤ 30) (h : ¬ (¬ vx < 0 ∧ vx < nI q)) : Met l yX4_hasBounced wsX4_hasBounced ({ frames := 3, cells := 0, slots := 0, locals := 64 } : Room) (va_Pc [.ref (a 0), .int (vx)] (PreW D cI cZ (wM a cI cZ M) sz)) (va_Qi (fun (r : Int32) (u : Nat → Nat → Int32) => r = 0 ∧ u = pt M 0 0 1) (fun (u : Nat → Nat → Int32) => PostW D cI cZ (va_A (wM a cI cZ M) sz) (wM a cI cZ u)) (va_A (wM a cI cZ M) sz)) 0 0 (va_A (wM a cI cZ M) sz) := by
  refine Met.ofW (cc := cX4_hasBounced) (maxL := 2) (ret := (some .boolean)) (by decide) rfl ?_
  intro p e s m args below meth c s₁ BB hml hv
  obtain ⟨rfl, hsz, hP, hK, hD0⟩ := hv
  have hx := BB.exec
  have hb := BB.bytes
  have hr := BB.returns
  have hts := atoms_spec (ws := wsX4_hasBounced) BB.pre
  have hown : s.vm.findClass RX4 = some m.cls := findClass_of_methodNamed BB.named
  have hlocks := BB.notSynchronized
  clear BB
  subst hsz
  have hD := hD0.self (sz := s.heap.size)
  clear hD0
  generalize hAe : va_A (wM a cI cZ M) s.heap.size = A at hD ⊢
  have hA : ∀ q : Nat, s.heap.size ≤ q → A q := fun q h => by rw [← hAe]; exact Or.inr h
  clear hAe
  have hS : va_S A s.heap s.heap [] := va_S.rf
  have hl := lv_entry ([.ref (a 0), .int (vx)]) (n := 2) (Nat.le_of_ble_eq_true rfl)
  rw [lg_entry_eq]
  generalize (lg_sl ([.ref (a 0), .int (vx)]) ++ List.replicate (2 - (lg_sl ([.ref (a 0), .int (vx)])).length) Slot.unset).toArray = ls at hl ⊢
  have hl : lv_has ls 2 [(0, .ref (a 0)), (1, .int (vx))] := hl
  generalize hHe : s.heap = H at hP
  have hS : va_S A s.heap H [] := by rw [← hHe]; exact va_S.rf
  clear hHe
  generalize hLe : ([] : List Loc) = locs at hS ⊢
  clear hLe
  refine lv_aload_n hx hb dX4_hasBounced_0 rfl (lv_at hl 0 rfl) ?_
  refine lv_iload_n hx hb dX4_hasBounced_1 rfl (lv_at hl 1 rfl) ?_
  refine zcVi (ci := 4) (q0 := 0) (wf := (fun (u : Nat → Nat → Int32) => (wM a cI cZ u))) (List.range 21) ⟨hx, hb, hml, hown, hts⟩ (zwAll 21 (by decide) rfl hP hD hS hA) hK (c_X4_noReceipt_k l D cI cZ a H.size (M) (q) (vx) (by first | assumption | omega) (by first | assumption | omega) h) (cwV 1 hts gX4_hasBounced_X4_noReceipt rfl rfl rfl (by decide +kernel) ⟨Nat.le_of_ble_eq_true rfl, Nat.le_of_ble_eq_true rfl⟩) rfl rfl (by decide) (fun _ => rfl) rfl hl.1 rfl (Nat.le_of_ble_eq_true rfl) dX4_hasBounced_2 ⟨Nat.le_of_ble_eq_true rfl, Nat.le_of_ble_eq_true rfl⟩ (fun r2 u H locs hw hP hD hS => ?_)
  obtain ⟨rfl, rfl⟩ := hw
  have hP : va_P D vwCl (wM a cI cZ (pt (M) 0 0 1)) H := hP
  have hD : va_D A (wM a cI cZ (pt (M) 0 0 1)) := hD
  refine lv_if_ne (tgt := 21) hx hb dX4_hasBounced_5 (by decide) (fun c5 => ?_) (fun c5 => ?_)
  · -- 5 taken
    refine lv_iconst (v := 0) hx hb dX4_hasBounced_21 (by decide) ?_
    exact W.zret (ty := .boolean) (v := 0) hx hb hr (by decide) (fun t ht hW => ⟨⟨0, (pt (M) 0 0 1), rfl, ⟨rfl, rfl⟩, by rw [ht]; exact hP, va_K.moved hW.alike hK, hD⟩, hS.F ht⟩) hS.2.2 dX4_hasBounced_22
  · -- 5 on
    exact absurd c5 (by decide)
set_option maxHeartbeats 4000000 in
set_option maxRecDepth 100000 in
theorem c_X4_appliedTo_0 (l : Launch) (D : va_G) (cI cZ : ClassId) (a : Nat → Nat) (sz : Nat) (M : Nat → Nat → Int32) (n : Nat) (q : Nat) (rc : Nat) (b : Nat) (hM : M 2 0 = nI n) (hn : n ≤ 40) (hMq : M 15 0 = nI q) (hq : q ≤ 30) (hrq : rc < q) (hbn : b < n) : Met l yX4_appliedTo wsX4_appliedTo ({ frames := 2, cells := 0, slots := 0, locals := 43 } : Room) (va_Pc [.ref (a 0), .int (nI (rc)), .int (nI (b))] (PreW D cI cZ (wM a cI cZ M) sz)) (va_Qi (fun (r : Int32) (u : Nat → Nat → Int32) => r = M 21 (40 * rc + b) ∧ u = pt M 0 0 0) (fun (u : Nat → Nat → Int32) => PostW D cI cZ (va_A (wM a cI cZ M) sz) (wM a cI cZ u)) (va_A (wM a cI cZ M) sz)) 0 0 (va_A (wM a cI cZ M) sz) := by
  refine Met.ofW (cc := cX4_appliedTo) (maxL := 3) (ret := (some .int)) (by decide) rfl ?_
  intro p e s m args below meth c s₁ BB hml hv
  obtain ⟨rfl, hsz, hP, hK, hD0⟩ := hv
  have hx := BB.exec
  have hb := BB.bytes
  have hr := BB.returns
  have hts := atoms_spec (ws := wsX4_appliedTo) BB.pre
  have hown : s.vm.findClass RX4 = some m.cls := findClass_of_methodNamed BB.named
  have hlocks := BB.notSynchronized
  clear BB
  subst hsz
  have hD := hD0.self (sz := s.heap.size)
  clear hD0
  generalize hAe : va_A (wM a cI cZ M) s.heap.size = A at hD ⊢
  have hA : ∀ q : Nat, s.heap.size ≤ q → A q := fun q h => by rw [← hAe]; exact Or.inr h
  clear hAe
  have hS : va_S A s.heap s.heap [] := va_S.rf
  have hl := lv_entry ([.ref (a 0), .int (nI (rc)), .int (nI (b))]) (n := 3) (Nat.le_of_ble_eq_true rfl)
  rw [lg_entry_eq]
  generalize (lg_sl ([.ref (a 0), .int (nI (rc)), .int (nI (b))]) ++ List.replicate (3 - (lg_sl ([.ref (a 0), .int (nI (rc)), .int (nI (b))])).length) Slot.unset).toArray = ls at hl ⊢
  have hl : lv_has ls 3 [(0, .ref (a 0)), (1, .int (nI (rc))), (2, .int (nI (b)))] := hl
  generalize hHe : s.heap = H at hP
  have hS : va_S A s.heap H [] := by rw [← hHe]; exact va_S.rf
  clear hHe
  generalize hLe : ([] : List Loc) = locs at hS ⊢
  clear hLe
  refine lv_aload_n hx hb dX4_appliedTo_0 rfl (lv_at hl 0 rfl) ?_
  refine lv_aload_n hx hb dX4_appliedTo_1 rfl (lv_at hl 0 rfl) ?_
  refine lv_iload_n hx hb dX4_appliedTo_2 rfl (lv_at hl 1 rfl) ?_
  refine zcVi (ci := 4) (q0 := 0) (wf := (fun (u : Unit) => (wM a cI cZ M))) (List.range 21) ⟨hx, hb, hml, hown, hts⟩ (zwAll 21 (by decide) rfl hP hD hS hA) hK (c_X4_isReceipt l D cI cZ a H.size (M) (nI (rc)) (q) (by first | assumption | omega) (by first | assumption | omega)) (cwV 1 hts gX4_appliedTo_X4_isReceipt rfl rfl rfl (by decide +kernel) ⟨Nat.le_of_ble_eq_true rfl, Nat.le_of_ble_eq_true rfl⟩) rfl rfl (by decide) (fun _ => rfl) rfl hl.1 rfl (Nat.le_of_ble_eq_true rfl) dX4_appliedTo_3 ⟨Nat.le_of_ble_eq_true rfl, Nat.le_of_ble_eq_true rfl⟩ (fun r3 u H locs hw hP hD hS => ?_)
  subst hw
  refine lv_if_eq (tgt := 21) hx hb dX4_appliedTo_6 (by decide) (fun c6 => ?_) (fun c6 => ?_)
  · -- 6 taken
    have c6 := b2_0 c6
    exact absurd ⟨nI_pos (by omega), (nI_ltI (by omega) (by omega)).mpr hrq⟩ c6
  · -- 6 on
    have c6 := b2_1 c6
    refine lv_aload_n hx hb dX4_appliedTo_9 rfl (lv_at hl 0 rfl) ?_
    refine lv_iload_n hx hb dX4_appliedTo_10 rfl (lv_at hl 2 rfl) ?_
    refine zcVi (ci := 4) (q0 := 0) (wf := (fun (u : Unit) => (wM a cI cZ M))) (List.range 21) ⟨hx, hb, hml, hown, hts⟩ (zwAll 21 (by decide) rfl hP hD hS hA) hK (c_X4_isBill l D cI cZ a H.size (M) (nI (b)) (n) (by first | assumption | omega) (by first | assumption | omega)) (cwV 1 hts gX4_appliedTo_X4_isBill rfl rfl rfl (by decide +kernel) ⟨Nat.le_of_ble_eq_true rfl, Nat.le_of_ble_eq_true rfl⟩) rfl rfl (by decide) (fun _ => rfl) rfl hl.1 rfl (Nat.le_of_ble_eq_true rfl) dX4_appliedTo_11 ⟨Nat.le_of_ble_eq_true rfl, Nat.le_of_ble_eq_true rfl⟩ (fun r11 u H locs hw hP hD hS => ?_)
    subst hw
    refine lv_if_eq (tgt := 21) hx hb dX4_appliedTo_14 (by decide) (fun c14 => ?_) (fun c14 => ?_)
    · -- 14 taken
      have c14 := b2_0 c14
      exact absurd ⟨nI_pos (by omega), (nI_ltI (by omega) (by omega)).mpr hbn⟩ c14
    · -- 14 on
      have c14 := b2_1 c14
      refine lv_iconst (v := 0) hx hb dX4_appliedTo_17 (by decide) ?_
      refine lv_goto (tgt := 22) hx hb dX4_appliedTo_18 (by decide) ?_
      refine zcVi (ci := 4) (q0 := 0) (wf := (fun (u : Nat → Nat → Int32) => (wM a cI cZ u))) (List.range 21) ⟨hx, hb, hml, hown, hts⟩ (zwAll 21 (by decide) rfl hP hD hS hA) hK (c_X4_refused_0 l D cI cZ a H.size (M) (0) (by first | rfl | decide)) (cwV 1 hts gX4_appliedTo_X4_refused rfl rfl rfl (by decide +kernel) ⟨Nat.le_of_ble_eq_true rfl, Nat.le_of_ble_eq_true rfl⟩) rfl rfl (by decide) (fun _ => rfl) rfl hl.1 rfl (Nat.le_of_ble_eq_true rfl) dX4_appliedTo_22 ⟨Nat.le_of_ble_eq_true rfl, Nat.le_of_ble_eq_true rfl⟩ (fun r22 u H locs hw hP hD hS => ?_)
      obtain ⟨rfl, rfl⟩ := hw
      have hP : va_P D vwCl (wM a cI cZ (pt (M) 0 0 0)) H := hP
      have hD : va_D A (wM a cI cZ (pt (M) 0 0 0)) := hD
      refine lv_if_eq (tgt := 32) hx hb dX4_appliedTo_25 (by decide) (fun c25 => ?_) (fun c25 => ?_)
      · -- 25 taken
        refine lv_aload_n hx hb dX4_appliedTo_32 rfl (lv_at hl 0 rfl) ?_
        refine va_get (D := D) (ci := 4) (v := .ref (a 18)) (C := RX4) (T := TX4) (N := 24) hx hb hts (fun w h => List.mem_cons_of_mem _ (List.mem_append_right _ h)) hown hK hP 0 rfl rfl 21 (by decide) (hts (.fieldLink RX4 62 "CashAllocatorModel" "paidBy" "[I") (by decide +kernel)) (fun _ h9 => h9) rfl dX4_appliedTo_33 ?_
        refine lv_bipush (v := nI (40)) hx hb dX4_appliedTo_36 (by decide) ?_
        refine lv_iload_n hx hb dX4_appliedTo_38 rfl (lv_at hl 1 rfl) ?_
        refine lv_imul hx hb dX4_appliedTo_39 ?_
        rw [pk_mul]
        refine lv_iload_n hx hb dX4_appliedTo_40 rfl (lv_at hl 2 rfl) ?_
        refine lv_iadd hx hb dX4_appliedTo_41 ?_
        rw [nI_add]
        refine zald hx hb hK hP 18 (n := 1200) (f := ((pt (M) 0 0 0) 21)) rfl (40 * rc + b) rfl (by omega) (by decide) dX4_appliedTo_42 ?_
        exact W.iret (v := (pt (M) 0 0 0) 21 (40 * rc + b)) hx hb hr (fun t ht hW => ⟨⟨(pt (M) 0 0 0) 21 (40 * rc + b), (pt (M) 0 0 0), rfl, ⟨rfl, rfl⟩, by rw [ht]; exact hP, va_K.moved hW.alike hK, hD⟩, hS.F ht⟩) hS.2.2 dX4_appliedTo_43
      · -- 25 on
        exact absurd c25 (by decide)
set_option maxHeartbeats 4000000 in
set_option maxRecDepth 100000 in
theorem c_X4_appliedTo_k (l : Launch) (D : va_G) (cI cZ : ClassId) (a : Nat → Nat) (sz : Nat) (M : Nat → Nat → Int32) (n : Nat) (q : Nat) (vx : Int32) (vb : Int32) (hM : M 2 0 = nI n) (hn : n ≤ 40) (hMq : M 15 0 = nI q) (hq : q ≤ 30) (h : ¬ ((¬ vx < 0 ∧ vx < nI q) ∧ (¬ vb < 0 ∧ vb < nI n))) : Met l yX4_appliedTo wsX4_appliedTo ({ frames := 2, cells := 0, slots := 0, locals := 43 } : Room) (va_Pc [.ref (a 0), .int (vx), .int (vb)] (PreW D cI cZ (wM a cI cZ M) sz)) (va_Qi (fun (r : Int32) (u : Nat → Nat → Int32) => r = 0 ∧ u = pt M 0 0 1) (fun (u : Nat → Nat → Int32) => PostW D cI cZ (va_A (wM a cI cZ M) sz) (wM a cI cZ u)) (va_A (wM a cI cZ M) sz)) 0 0 (va_A (wM a cI cZ M) sz) := by
  refine Met.ofW (cc := cX4_appliedTo) (maxL := 3) (ret := (some .int)) (by decide) rfl ?_
  intro p e s m args below meth c s₁ BB hml hv
  obtain ⟨rfl, hsz, hP, hK, hD0⟩ := hv
  have hx := BB.exec
  have hb := BB.bytes
  have hr := BB.returns
  have hts := atoms_spec (ws := wsX4_appliedTo) BB.pre
  have hown : s.vm.findClass RX4 = some m.cls := findClass_of_methodNamed BB.named
  have hlocks := BB.notSynchronized
  clear BB
  subst hsz
  have hD := hD0.self (sz := s.heap.size)
  clear hD0
  generalize hAe : va_A (wM a cI cZ M) s.heap.size = A at hD ⊢
  have hA : ∀ q : Nat, s.heap.size ≤ q → A q := fun q h => by rw [← hAe]; exact Or.inr h
  clear hAe
  have hS : va_S A s.heap s.heap [] := va_S.rf
  have hl := lv_entry ([.ref (a 0), .int (vx), .int (vb)]) (n := 3) (Nat.le_of_ble_eq_true rfl)
  rw [lg_entry_eq]
  generalize (lg_sl ([.ref (a 0), .int (vx), .int (vb)]) ++ List.replicate (3 - (lg_sl ([.ref (a 0), .int (vx), .int (vb)])).length) Slot.unset).toArray = ls at hl ⊢
  have hl : lv_has ls 3 [(0, .ref (a 0)), (1, .int (vx)), (2, .int (vb))] := hl
  generalize hHe : s.heap = H at hP
  have hS : va_S A s.heap H [] := by rw [← hHe]; exact va_S.rf
  clear hHe
  generalize hLe : ([] : List Loc) = locs at hS ⊢
  clear hLe
  refine lv_aload_n hx hb dX4_appliedTo_0 rfl (lv_at hl 0 rfl) ?_
  refine lv_aload_n hx hb dX4_appliedTo_1 rfl (lv_at hl 0 rfl) ?_
  refine lv_iload_n hx hb dX4_appliedTo_2 rfl (lv_at hl 1 rfl) ?_
  refine zcVi (ci := 4) (q0 := 0) (wf := (fun (u : Unit) => (wM a cI cZ M))) (List.range 21) ⟨hx, hb, hml, hown, hts⟩ (zwAll 21 (by decide) rfl hP hD hS hA) hK (c_X4_isReceipt l D cI cZ a H.size (M) (vx) (q) (by first | assumption | omega) (by first | assumption | omega)) (cwV 1 hts gX4_appliedTo_X4_isReceipt rfl rfl rfl (by decide +kernel) ⟨Nat.le_of_ble_eq_true rfl, Nat.le_of_ble_eq_true rfl⟩) rfl rfl (by decide) (fun _ => rfl) rfl hl.1 rfl (Nat.le_of_ble_eq_true rfl) dX4_appliedTo_3 ⟨Nat.le_of_ble_eq_true rfl, Nat.le_of_ble_eq_true rfl⟩ (fun r3 u H locs hw hP hD hS => ?_)
  subst hw
  refine lv_if_eq (tgt := 21) hx hb dX4_appliedTo_6 (by decide) (fun c6 => ?_) (fun c6 => ?_)
  · -- 6 taken
    have c6 := b2_0 c6
    refine lv_iconst (v := 1) hx hb dX4_appliedTo_21 (by decide) ?_
    refine zcVi (ci := 4) (q0 := 0) (wf := (fun (u : Nat → Nat → Int32) => (wM a cI cZ u))) (List.range 21) ⟨hx, hb, hml, hown, hts⟩ (zwAll 21 (by decide) rfl hP hD hS hA) hK (c_X4_refused_k l D cI cZ a H.size (M) (1) (by first | rfl | decide)) (cwV 1 hts gX4_appliedTo_X4_refused rfl rfl rfl (by decide +kernel) ⟨Nat.le_of_ble_eq_true rfl, Nat.le_of_ble_eq_true rfl⟩) rfl rfl (by decide) (fun _ => rfl) rfl hl.1 rfl (Nat.le_of_ble_eq_true rfl) dX4_appliedTo_22 ⟨Nat.le_of_ble_eq_true rfl, Nat.le_of_ble_eq_true rfl⟩ (fun r22 u H locs hw hP hD hS => ?_)
    obtain ⟨rfl, rfl⟩ := hw
    have hP : va_P D vwCl (wM a cI cZ (pt (M) 0 0 (1))) H := hP
    have hD : va_D A (wM a cI cZ (pt (M) 0 0 (1))) := hD
    refine lv_if_eq (tgt := 32) hx hb dX4_appliedTo_25 (by decide) (fun c25 => ?_) (fun c25 => ?_)
    · -- 25 taken
      exact absurd c25 (by decide)
    · -- 25 on
      refine lv_iconst (v := 0) hx hb dX4_appliedTo_28 (by decide) ?_
      refine lv_goto (tgt := 43) hx hb dX4_appliedTo_29 (by decide) ?_
      exact W.iret (v := 0) hx hb hr (fun t ht hW => ⟨⟨0, (pt (M) 0 0 (1)), rfl, ⟨rfl, rfl⟩, by rw [ht]; exact hP, va_K.moved hW.alike hK, hD⟩, hS.F ht⟩) hS.2.2 dX4_appliedTo_43
  · -- 6 on
    have c6 := b2_1 c6
    refine lv_aload_n hx hb dX4_appliedTo_9 rfl (lv_at hl 0 rfl) ?_
    refine lv_iload_n hx hb dX4_appliedTo_10 rfl (lv_at hl 2 rfl) ?_
    refine zcVi (ci := 4) (q0 := 0) (wf := (fun (u : Unit) => (wM a cI cZ M))) (List.range 21) ⟨hx, hb, hml, hown, hts⟩ (zwAll 21 (by decide) rfl hP hD hS hA) hK (c_X4_isBill l D cI cZ a H.size (M) (vb) (n) (by first | assumption | omega) (by first | assumption | omega)) (cwV 1 hts gX4_appliedTo_X4_isBill rfl rfl rfl (by decide +kernel) ⟨Nat.le_of_ble_eq_true rfl, Nat.le_of_ble_eq_true rfl⟩) rfl rfl (by decide) (fun _ => rfl) rfl hl.1 rfl (Nat.le_of_ble_eq_true rfl) dX4_appliedTo_11 ⟨Nat.le_of_ble_eq_true rfl, Nat.le_of_ble_eq_true rfl⟩ (fun r11 u H locs hw hP hD hS => ?_)
    subst hw
    refine lv_if_eq (tgt := 21) hx hb dX4_appliedTo_14 (by decide) (fun c14 => ?_) (fun c14 => ?_)
    · -- 14 taken
      have c14 := b2_0 c14
      refine lv_iconst (v := 1) hx hb dX4_appliedTo_21 (by decide) ?_
      refine zcVi (ci := 4) (q0 := 0) (wf := (fun (u : Nat → Nat → Int32) => (wM a cI cZ u))) (List.range 21) ⟨hx, hb, hml, hown, hts⟩ (zwAll 21 (by decide) rfl hP hD hS hA) hK (c_X4_refused_k l D cI cZ a H.size (M) (1) (by first | rfl | decide)) (cwV 1 hts gX4_appliedTo_X4_refused rfl rfl rfl (by decide +kernel) ⟨Nat.le_of_ble_eq_true rfl, Nat.le_of_ble_eq_true rfl⟩) rfl rfl (by decide) (fun _ => rfl) rfl hl.1 rfl (Nat.le_of_ble_eq_true rfl) dX4_appliedTo_22 ⟨Nat.le_of_ble_eq_true rfl, Nat.le_of_ble_eq_true rfl⟩ (fun r22 u H locs hw hP hD hS => ?_)
      obtain ⟨rfl, rfl⟩ := hw
      have hP : va_P D vwCl (wM a cI cZ (pt (M) 0 0 (1))) H := hP
      have hD : va_D A (wM a cI cZ (pt (M) 0 0 (1))) := hD
      refine lv_if_eq (tgt := 32) hx hb dX4_appliedTo_25 (by decide) (fun c25 => ?_) (fun c25 => ?_)
      · -- 25 taken
        exact absurd c25 (by decide)
      · -- 25 on
        refine lv_iconst (v := 0) hx hb dX4_appliedTo_28 (by decide) ?_
        refine lv_goto (tgt := 43) hx hb dX4_appliedTo_29 (by decide) ?_
        exact W.iret (v := 0) hx hb hr (fun t ht hW => ⟨⟨0, (pt (M) 0 0 (1)), rfl, ⟨rfl, rfl⟩, by rw [ht]; exact hP, va_K.moved hW.alike hK, hD⟩, hS.F ht⟩) hS.2.2 dX4_appliedTo_43
    · -- 14 on
      have c14 := b2_1 c14
      exact absurd ⟨c6, c14⟩ h
set_option maxHeartbeats 4000000 in
set_option maxRecDepth 100000 in
theorem c_X4_openOf_0 (l : Launch) (D : va_G) (cI cZ : ClassId) (a : Nat → Nat) (sz : Nat) (M : Nat → Nat → Int32) (n : Nat) (cu : Int32) (hM : M 2 0 = nI n) (hn : n ≤ 40) (h1 : ¬ cu < 0 ∧ cu < 8) : Met l yX4_openOf wsX4_openOf ({ frames := 2, cells := 0, slots := 0, locals := 42 } : Room) (va_Pc [.ref (a 0), .int (cu)] (PreW D cI cZ (wM a cI cZ M) sz)) (va_Qi (fun (r : Int32) (u : Nat → Nat → Int32) => r = moo M cu n ∧ u = pt M 0 0 0) (fun (u : Nat → Nat → Int32) => PostW D cI cZ (va_A (wM a cI cZ M) sz) (wM a cI cZ u)) (va_A (wM a cI cZ M) sz)) 0 0 (va_A (wM a cI cZ M) sz) := by
  refine Met.ofW (cc := cX4_openOf) (maxL := 4) (ret := (some .int)) (by decide) rfl ?_
  intro p e s m args below meth c s₁ BB hml hv
  obtain ⟨rfl, hsz, hP, hK, hD0⟩ := hv
  have hx := BB.exec
  have hb := BB.bytes
  have hr := BB.returns
  have hts := atoms_spec (ws := wsX4_openOf) BB.pre
  have hown : s.vm.findClass RX4 = some m.cls := findClass_of_methodNamed BB.named
  have hlocks := BB.notSynchronized
  clear BB
  subst hsz
  have hD := hD0.self (sz := s.heap.size)
  clear hD0
  generalize hAe : va_A (wM a cI cZ M) s.heap.size = A at hD ⊢
  have hA : ∀ q : Nat, s.heap.size ≤ q → A q := fun q h => by rw [← hAe]; exact Or.inr h
  clear hAe
  have hS : va_S A s.heap s.heap [] := va_S.rf
  have hl := lv_entry ([.ref (a 0), .int (cu)]) (n := 4) (Nat.le_of_ble_eq_true rfl)
  rw [lg_entry_eq]
  generalize (lg_sl ([.ref (a 0), .int (cu)]) ++ List.replicate (4 - (lg_sl ([.ref (a 0), .int (cu)])).length) Slot.unset).toArray = ls at hl ⊢
  have hl : lv_has ls 4 [(0, .ref (a 0)), (1, .int (cu))] := hl
  generalize hHe : s.heap = H at hP
  have hS : va_S A s.heap H [] := by rw [← hHe]; exact va_S.rf
  clear hHe
  generalize hLe : ([] : List Loc) = locs at hS ⊢
  clear hLe
  refine lv_iconst (v := 0) hx hb dX4_openOf_0 (by decide) ?_
  refine lv_istore_n (lv' := [(2, .int (0)), (0, .ref (a 0)), (1, .int (cu))]) hx hb dX4_openOf_1 rfl hl (by decide) rfl (fun ls hl => ?_)
  refine lv_iconst (v := nI (0)) hx hb dX4_openOf_2 (by decide) ?_
  refine lv_istore_n (lv' := [(3, .int (nI (0))), (2, .int (0)), (0, .ref (a 0)), (1, .int (cu))]) hx hb dX4_openOf_3 rfl hl (by decide) rfl (fun ls hl => ?_)
  have loop4 : ∀ (fu : Nat) (i : Nat) (tt : Int32) (hin : i ≤ n) (ht : tt = moo M cu i) (hfu : n - i < fu) (H : Heap) (locs : List Loc) (hP : va_P D vwCl (wM a cI cZ M) H) (hD : va_D A (wM a cI cZ M)) (hS : va_S A s.heap H locs) (ls : Array Slot) (hl : lv_has ls 4 [(3, .int (nI (i))), (2, .int (tt)), (0, .ref (a 0)), (1, .int (cu))]), W p l e (headSpec wsX4_openOf ({ frames := 2, cells := 0, slots := 0, locals := 42 } : Room)).room s m ([.ref (a 0), .int (cu)] : List Value).toArray below meth c H locs 0 0 (MQ below (va_Qi (fun (r : Int32) (u : Nat → Nat → Int32) => r = moo M cu n ∧ u = pt M 0 0 0) (fun (u : Nat → Nat → Int32) => PostW D cI cZ A (wM a cI cZ u)) A) ([.ref (a 0), .int (cu)] : List Value).toArray s 0 0 A) (F0 m 4 ls []) := by
    clear hP hD hS hl
    intro fu4
    induction fu4 with
    | zero => intro i tt hin ht hfu; exact absurd hfu (Nat.not_lt_zero _)
    | succ fu4 ih4 =>
      intro i tt hin ht hfu H locs hP hD hS ls hl
      refine lv_iload_n hx hb dX4_openOf_4 rfl (lv_at hl 0 rfl) ?_
      refine lv_aload_n hx hb dX4_openOf_5 rfl (lv_at hl 2 rfl) ?_
      refine va_get (D := D) (ci := 4) (v := .int (nI (n))) (C := RX4) (T := TX4) (N := 24) hx hb hts (fun w h => List.mem_cons_of_mem _ (List.mem_append_right _ h)) hown hK hP 0 rfl rfl 2 (by decide) (hts (.fieldLink RX4 79 "CashAllocatorModel" "bills" "I") (by decide +kernel)) (fun _ h9 => h9) (congrArg (fun z => some (Value.int z)) hM) dX4_openOf_6 ?_
      refine lv_icmp_ge (tgt := 40) hx hb dX4_openOf_9 (by decide) (fun c9 => ?_) (fun c9 => ?_)
      · -- 9 taken
        rw [nI_leI (by omega) (by omega)] at c9
        have hfin : tt = moo M cu n := by rw [ht]; congr 1; omega
        refine lv_aload_n hx hb dX4_openOf_40 rfl (lv_at hl 2 rfl) ?_
        refine lv_iload_n hx hb dX4_openOf_41 rfl (lv_at hl 3 rfl) ?_
        refine zcSi (wf := (fun (u : Unit) => (wM a cI cZ M))) (List.range 21) ⟨hx, hb, hml, hown, hts⟩ (zwNo 21 (by decide) rfl hP hD hS hA) hK (c_X4_isCustomer l D cI cZ a H.size (cu) ) (cwS 1 hts gX4_openOf_X4_isCustomer rfl rfl rfl (by decide +kernel) ⟨Nat.le_of_ble_eq_true rfl, Nat.le_of_ble_eq_true rfl⟩) (by decide) (fun _ => rfl) rfl hl.1 rfl (Nat.le_of_ble_eq_true rfl) dX4_openOf_42 ⟨Nat.le_of_ble_eq_true rfl, Nat.le_of_ble_eq_true rfl⟩ (fun r42 u H locs hw hP hD hS => ?_)
        subst hw
        refine lv_if_eq (tgt := 52) hx hb dX4_openOf_45 (by decide) (fun c45 => ?_) (fun c45 => ?_)
        · -- 45 taken
          have c45 := b2_0 c45
          exact absurd h1 c45
        · -- 45 on
          have c45 := b2_1 c45
          refine lv_iconst (v := 0) hx hb dX4_openOf_48 (by decide) ?_
          refine lv_goto (tgt := 53) hx hb dX4_openOf_49 (by decide) ?_
          refine zcVi (ci := 4) (q0 := 0) (wf := (fun (u : Nat → Nat → Int32) => (wM a cI cZ u))) (List.range 21) ⟨hx, hb, hml, hown, hts⟩ (zwAll 21 (by decide) rfl hP hD hS hA) hK (c_X4_refused_0 l D cI cZ a H.size (M) (0) (by first | rfl | decide)) (cwV 1 hts gX4_openOf_X4_refused rfl rfl rfl (by decide +kernel) ⟨Nat.le_of_ble_eq_true rfl, Nat.le_of_ble_eq_true rfl⟩) rfl rfl (by decide) (fun _ => rfl) rfl hl.1 rfl (Nat.le_of_ble_eq_true rfl) dX4_openOf_53 ⟨Nat.le_of_ble_eq_true rfl, Nat.le_of_ble_eq_true rfl⟩ (fun r53 u H locs hw hP hD hS => ?_)
          obtain ⟨rfl, rfl⟩ := hw
          have hP : va_P D vwCl (wM a cI cZ (pt (M) 0 0 0)) H := hP
          have hD : va_D A (wM a cI cZ (pt (M) 0 0 0)) := hD
          refine lv_if_eq (tgt := 63) hx hb dX4_openOf_56 (by decide) (fun c56 => ?_) (fun c56 => ?_)
          · -- 56 taken
            refine lv_iload_n hx hb dX4_openOf_63 rfl (lv_at hl 1 rfl) ?_
            exact W.iret (v := tt) hx hb hr (fun t ht hW => ⟨⟨tt, (pt (M) 0 0 0), rfl, ⟨hfin, rfl⟩, by rw [ht]; exact hP, va_K.moved hW.alike hK, hD⟩, hS.F ht⟩) hS.2.2 dX4_openOf_64
          · -- 56 on
            exact absurd c56 (by decide)
      · -- 9 on
        rw [nI_leI (by omega) (by omega)] at c9
        have c9 : i < n := by omega
        refine lv_iload_n hx hb dX4_openOf_12 rfl (lv_at hl 1 rfl) ?_
        refine lv_aload_n hx hb dX4_openOf_13 rfl (lv_at hl 2 rfl) ?_
        refine va_get (D := D) (ci := 4) (v := .ref (a 1)) (C := RX4) (T := TX4) (N := 24) hx hb hts (fun w h => List.mem_cons_of_mem _ (List.mem_append_right _ h)) hown hK hP 0 rfl rfl 3 (by decide) (hts (.fieldLink RX4 7 "CashAllocatorModel" "owners" "[I") (by decide +kernel)) (fun _ h9 => h9) rfl dX4_openOf_14 ?_
        refine lv_iload_n hx hb dX4_openOf_17 rfl (lv_at hl 0 rfl) ?_
        refine zald hx hb hK hP 1 (n := 40) (f := (M 3)) rfl (i) rfl (by omega) (by decide) dX4_openOf_18 ?_
        refine lv_iload_n hx hb dX4_openOf_19 rfl (lv_at hl 3 rfl) ?_
        refine lv_icmp_ne (tgt := 31) hx hb dX4_openOf_20 (by decide) (fun c20 => ?_) (fun c20 => ?_)
        · -- 20 taken
          refine lv_iconst (v := 0) hx hb dX4_openOf_31 (by decide) ?_
          refine lv_iadd hx hb dX4_openOf_32 ?_
          refine lv_istore_n (lv' := [(2, .int ((tt) + (0))), (3, .int (nI (i))), (0, .ref (a 0)), (1, .int (cu))]) hx hb dX4_openOf_33 rfl hl (by decide) rfl (fun ls hl => ?_)
          refine lv_iinc (v := nI (i + 1)) (lv' := [(3, .int (nI (i + 1))), (2, .int ((tt) + (0))), (0, .ref (a 0)), (1, .int (cu))]) hx hb dX4_openOf_34 hl (k := 1) rfl (nI_1 _) (by decide) rfl (fun ls hl => ?_)
          refine lv_goto (tgt := 4) hx hb dX4_openOf_37 (by decide) ?_
          exact ih4 (i + 1) ((tt) + (0)) (by omega) (by rw [moo, ht]; first | rw [if_pos c20] | rw [if_neg c20]) (by omega) _ _ hP hD hS _ (lv_sub hl [0, 1, 2, 3] rfl)
        · -- 20 on
          refine lv_aload_n hx hb dX4_openOf_23 rfl (lv_at hl 2 rfl) ?_
          refine lv_iload_n hx hb dX4_openOf_24 rfl (lv_at hl 0 rfl) ?_
          refine zcVi (ci := 4) (q0 := 0) (wf := (fun (u : Unit) => (wM a cI cZ M))) (List.range 21) ⟨hx, hb, hml, hown, hts⟩ (zwAll 21 (by decide) rfl hP hD hS hA) hK (c_X4_openNow l D cI cZ a H.size (M) (i) (by first | assumption | omega)) (cwV 1 hts gX4_openOf_X4_openNow rfl rfl rfl (by decide +kernel) ⟨Nat.le_of_ble_eq_true rfl, Nat.le_of_ble_eq_true rfl⟩) rfl rfl (by decide) (fun _ => rfl) rfl hl.1 rfl (Nat.le_of_ble_eq_true rfl) dX4_openOf_25 ⟨Nat.le_of_ble_eq_true rfl, Nat.le_of_ble_eq_true rfl⟩ (fun r25 u H locs hw hP hD hS => ?_)
          subst hw
          refine lv_goto (tgt := 32) hx hb dX4_openOf_28 (by decide) ?_
          refine lv_iadd hx hb dX4_openOf_32 ?_
          refine lv_istore_n (lv' := [(2, .int ((tt) + (mopn (M) (i)))), (3, .int (nI (i))), (0, .ref (a 0)), (1, .int (cu))]) hx hb dX4_openOf_33 rfl hl (by decide) rfl (fun ls hl => ?_)
          refine lv_iinc (v := nI (i + 1)) (lv' := [(3, .int (nI (i + 1))), (2, .int ((tt) + (mopn (M) (i)))), (0, .ref (a 0)), (1, .int (cu))]) hx hb dX4_openOf_34 hl (k := 1) rfl (nI_1 _) (by decide) rfl (fun ls hl => ?_)
          refine lv_goto (tgt := 4) hx hb dX4_openOf_37 (by decide) ?_
          exact ih4 (i + 1) ((tt) + (mopn (M) (i))) (by omega) (by rw [moo, ht]; first | rw [if_pos c20] | rw [if_neg c20]) (by omega) _ _ hP hD hS _ (lv_sub hl [0, 1, 2, 3] rfl)
  exact loop4 _ (0) (0) (Nat.zero_le _) (rfl) (Nat.lt_succ_self _) _ _ hP hD hS _ (lv_sub hl [0, 1, 2, 3] rfl)
set_option maxHeartbeats 4000000 in
set_option maxRecDepth 100000 in
theorem c_X4_openOf_k (l : Launch) (D : va_G) (cI cZ : ClassId) (a : Nat → Nat) (sz : Nat) (M : Nat → Nat → Int32) (n : Nat) (cu : Int32) (hM : M 2 0 = nI n) (hn : n ≤ 40) (h1 : ¬ (¬ cu < 0 ∧ cu < 8)) : Met l yX4_openOf wsX4_openOf ({ frames := 2, cells := 0, slots := 0, locals := 42 } : Room) (va_Pc [.ref (a 0), .int (cu)] (PreW D cI cZ (wM a cI cZ M) sz)) (va_Qi (fun (r : Int32) (u : Nat → Nat → Int32) => r = 0 ∧ u = pt M 0 0 1) (fun (u : Nat → Nat → Int32) => PostW D cI cZ (va_A (wM a cI cZ M) sz) (wM a cI cZ u)) (va_A (wM a cI cZ M) sz)) 0 0 (va_A (wM a cI cZ M) sz) := by
  refine Met.ofW (cc := cX4_openOf) (maxL := 4) (ret := (some .int)) (by decide) rfl ?_
  intro p e s m args below meth c s₁ BB hml hv
  obtain ⟨rfl, hsz, hP, hK, hD0⟩ := hv
  have hx := BB.exec
  have hb := BB.bytes
  have hr := BB.returns
  have hts := atoms_spec (ws := wsX4_openOf) BB.pre
  have hown : s.vm.findClass RX4 = some m.cls := findClass_of_methodNamed BB.named
  have hlocks := BB.notSynchronized
  clear BB
  subst hsz
  have hD := hD0.self (sz := s.heap.size)
  clear hD0
  generalize hAe : va_A (wM a cI cZ M) s.heap.size = A at hD ⊢
  have hA : ∀ q : Nat, s.heap.size ≤ q → A q := fun q h => by rw [← hAe]; exact Or.inr h
  clear hAe
  have hS : va_S A s.heap s.heap [] := va_S.rf
  have hl := lv_entry ([.ref (a 0), .int (cu)]) (n := 4) (Nat.le_of_ble_eq_true rfl)
  rw [lg_entry_eq]
  generalize (lg_sl ([.ref (a 0), .int (cu)]) ++ List.replicate (4 - (lg_sl ([.ref (a 0), .int (cu)])).length) Slot.unset).toArray = ls at hl ⊢
  have hl : lv_has ls 4 [(0, .ref (a 0)), (1, .int (cu))] := hl
  generalize hHe : s.heap = H at hP
  have hS : va_S A s.heap H [] := by rw [← hHe]; exact va_S.rf
  clear hHe
  generalize hLe : ([] : List Loc) = locs at hS ⊢
  clear hLe
  refine lv_iconst (v := 0) hx hb dX4_openOf_0 (by decide) ?_
  refine lv_istore_n (lv' := [(2, .int (0)), (0, .ref (a 0)), (1, .int (cu))]) hx hb dX4_openOf_1 rfl hl (by decide) rfl (fun ls hl => ?_)
  refine lv_iconst (v := nI (0)) hx hb dX4_openOf_2 (by decide) ?_
  refine lv_istore_n (lv' := [(3, .int (nI (0))), (2, .int (0)), (0, .ref (a 0)), (1, .int (cu))]) hx hb dX4_openOf_3 rfl hl (by decide) rfl (fun ls hl => ?_)
  have loop4 : ∀ (fu : Nat) (i : Nat) (tt : Int32) (hin : i ≤ n) (hfu : n - i < fu) (H : Heap) (locs : List Loc) (hP : va_P D vwCl (wM a cI cZ M) H) (hD : va_D A (wM a cI cZ M)) (hS : va_S A s.heap H locs) (ls : Array Slot) (hl : lv_has ls 4 [(3, .int (nI (i))), (2, .int (tt)), (0, .ref (a 0)), (1, .int (cu))]), W p l e (headSpec wsX4_openOf ({ frames := 2, cells := 0, slots := 0, locals := 42 } : Room)).room s m ([.ref (a 0), .int (cu)] : List Value).toArray below meth c H locs 0 0 (MQ below (va_Qi (fun (r : Int32) (u : Nat → Nat → Int32) => r = 0 ∧ u = pt M 0 0 1) (fun (u : Nat → Nat → Int32) => PostW D cI cZ A (wM a cI cZ u)) A) ([.ref (a 0), .int (cu)] : List Value).toArray s 0 0 A) (F0 m 4 ls []) := by
    clear hP hD hS hl
    intro fu4
    induction fu4 with
    | zero => intro i tt hin hfu; exact absurd hfu (Nat.not_lt_zero _)
    | succ fu4 ih4 =>
      intro i tt hin hfu H locs hP hD hS ls hl
      refine lv_iload_n hx hb dX4_openOf_4 rfl (lv_at hl 0 rfl) ?_
      refine lv_aload_n hx hb dX4_openOf_5 rfl (lv_at hl 2 rfl) ?_
      refine va_get (D := D) (ci := 4) (v := .int (nI (n))) (C := RX4) (T := TX4) (N := 24) hx hb hts (fun w h => List.mem_cons_of_mem _ (List.mem_append_right _ h)) hown hK hP 0 rfl rfl 2 (by decide) (hts (.fieldLink RX4 79 "CashAllocatorModel" "bills" "I") (by decide +kernel)) (fun _ h9 => h9) (congrArg (fun z => some (Value.int z)) hM) dX4_openOf_6 ?_
      refine lv_icmp_ge (tgt := 40) hx hb dX4_openOf_9 (by decide) (fun c9 => ?_) (fun c9 => ?_)
      · -- 9 taken
        rw [nI_leI (by omega) (by omega)] at c9
        refine lv_aload_n hx hb dX4_openOf_40 rfl (lv_at hl 2 rfl) ?_
        refine lv_iload_n hx hb dX4_openOf_41 rfl (lv_at hl 3 rfl) ?_
        refine zcSi (wf := (fun (u : Unit) => (wM a cI cZ M))) (List.range 21) ⟨hx, hb, hml, hown, hts⟩ (zwNo 21 (by decide) rfl hP hD hS hA) hK (c_X4_isCustomer l D cI cZ a H.size (cu) ) (cwS 1 hts gX4_openOf_X4_isCustomer rfl rfl rfl (by decide +kernel) ⟨Nat.le_of_ble_eq_true rfl, Nat.le_of_ble_eq_true rfl⟩) (by decide) (fun _ => rfl) rfl hl.1 rfl (Nat.le_of_ble_eq_true rfl) dX4_openOf_42 ⟨Nat.le_of_ble_eq_true rfl, Nat.le_of_ble_eq_true rfl⟩ (fun r42 u H locs hw hP hD hS => ?_)
        subst hw
        refine lv_if_eq (tgt := 52) hx hb dX4_openOf_45 (by decide) (fun c45 => ?_) (fun c45 => ?_)
        · -- 45 taken
          have c45 := b2_0 c45
          refine lv_iconst (v := 1) hx hb dX4_openOf_52 (by decide) ?_
          refine zcVi (ci := 4) (q0 := 0) (wf := (fun (u : Nat → Nat → Int32) => (wM a cI cZ u))) (List.range 21) ⟨hx, hb, hml, hown, hts⟩ (zwAll 21 (by decide) rfl hP hD hS hA) hK (c_X4_refused_k l D cI cZ a H.size (M) (1) (by first | rfl | decide)) (cwV 1 hts gX4_openOf_X4_refused rfl rfl rfl (by decide +kernel) ⟨Nat.le_of_ble_eq_true rfl, Nat.le_of_ble_eq_true rfl⟩) rfl rfl (by decide) (fun _ => rfl) rfl hl.1 rfl (Nat.le_of_ble_eq_true rfl) dX4_openOf_53 ⟨Nat.le_of_ble_eq_true rfl, Nat.le_of_ble_eq_true rfl⟩ (fun r53 u H locs hw hP hD hS => ?_)
          obtain ⟨rfl, rfl⟩ := hw
          have hP : va_P D vwCl (wM a cI cZ (pt (M) 0 0 (1))) H := hP
          have hD : va_D A (wM a cI cZ (pt (M) 0 0 (1))) := hD
          refine lv_if_eq (tgt := 63) hx hb dX4_openOf_56 (by decide) (fun c56 => ?_) (fun c56 => ?_)
          · -- 56 taken
            exact absurd c56 (by decide)
          · -- 56 on
            refine lv_iconst (v := 0) hx hb dX4_openOf_59 (by decide) ?_
            refine lv_goto (tgt := 64) hx hb dX4_openOf_60 (by decide) ?_
            exact W.iret (v := 0) hx hb hr (fun t ht hW => ⟨⟨0, (pt (M) 0 0 (1)), rfl, ⟨rfl, rfl⟩, by rw [ht]; exact hP, va_K.moved hW.alike hK, hD⟩, hS.F ht⟩) hS.2.2 dX4_openOf_64
        · -- 45 on
          have c45 := b2_1 c45
          exact absurd c45 h1
      · -- 9 on
        rw [nI_leI (by omega) (by omega)] at c9
        have c9 : i < n := by omega
        refine lv_iload_n hx hb dX4_openOf_12 rfl (lv_at hl 1 rfl) ?_
        refine lv_aload_n hx hb dX4_openOf_13 rfl (lv_at hl 2 rfl) ?_
        refine va_get (D := D) (ci := 4) (v := .ref (a 1)) (C := RX4) (T := TX4) (N := 24) hx hb hts (fun w h => List.mem_cons_of_mem _ (List.mem_append_right _ h)) hown hK hP 0 rfl rfl 3 (by decide) (hts (.fieldLink RX4 7 "CashAllocatorModel" "owners" "[I") (by decide +kernel)) (fun _ h9 => h9) rfl dX4_openOf_14 ?_
        refine lv_iload_n hx hb dX4_openOf_17 rfl (lv_at hl 0 rfl) ?_
        refine zald hx hb hK hP 1 (n := 40) (f := (M 3)) rfl (i) rfl (by omega) (by decide) dX4_openOf_18 ?_
        refine lv_iload_n hx hb dX4_openOf_19 rfl (lv_at hl 3 rfl) ?_
        refine lv_icmp_ne (tgt := 31) hx hb dX4_openOf_20 (by decide) (fun c20 => ?_) (fun c20 => ?_)
        · -- 20 taken
          refine lv_iconst (v := 0) hx hb dX4_openOf_31 (by decide) ?_
          refine lv_iadd hx hb dX4_openOf_32 ?_
          refine lv_istore_n (lv' := [(2, .int ((tt) + (0))), (3, .int (nI (i))), (0, .ref (a 0)), (1, .int (cu))]) hx hb dX4_openOf_33 rfl hl (by decide) rfl (fun ls hl => ?_)
          refine lv_iinc (v := nI (i + 1)) (lv' := [(3, .int (nI (i + 1))), (2, .int ((tt) + (0))), (0, .ref (a 0)), (1, .int (cu))]) hx hb dX4_openOf_34 hl (k := 1) rfl (nI_1 _) (by decide) rfl (fun ls hl => ?_)
          refine lv_goto (tgt := 4) hx hb dX4_openOf_37 (by decide) ?_
          exact ih4 (i + 1) ((tt) + (0)) (by omega) (by omega) _ _ hP hD hS _ (lv_sub hl [0, 1, 2, 3] rfl)
        · -- 20 on
          refine lv_aload_n hx hb dX4_openOf_23 rfl (lv_at hl 2 rfl) ?_
          refine lv_iload_n hx hb dX4_openOf_24 rfl (lv_at hl 0 rfl) ?_
          refine zcVi (ci := 4) (q0 := 0) (wf := (fun (u : Unit) => (wM a cI cZ M))) (List.range 21) ⟨hx, hb, hml, hown, hts⟩ (zwAll 21 (by decide) rfl hP hD hS hA) hK (c_X4_openNow l D cI cZ a H.size (M) (i) (by first | assumption | omega)) (cwV 1 hts gX4_openOf_X4_openNow rfl rfl rfl (by decide +kernel) ⟨Nat.le_of_ble_eq_true rfl, Nat.le_of_ble_eq_true rfl⟩) rfl rfl (by decide) (fun _ => rfl) rfl hl.1 rfl (Nat.le_of_ble_eq_true rfl) dX4_openOf_25 ⟨Nat.le_of_ble_eq_true rfl, Nat.le_of_ble_eq_true rfl⟩ (fun r25 u H locs hw hP hD hS => ?_)
          subst hw
          refine lv_goto (tgt := 32) hx hb dX4_openOf_28 (by decide) ?_
          refine lv_iadd hx hb dX4_openOf_32 ?_
          refine lv_istore_n (lv' := [(2, .int ((tt) + (mopn (M) (i)))), (3, .int (nI (i))), (0, .ref (a 0)), (1, .int (cu))]) hx hb dX4_openOf_33 rfl hl (by decide) rfl (fun ls hl => ?_)
          refine lv_iinc (v := nI (i + 1)) (lv' := [(3, .int (nI (i + 1))), (2, .int ((tt) + (mopn (M) (i)))), (0, .ref (a 0)), (1, .int (cu))]) hx hb dX4_openOf_34 hl (k := 1) rfl (nI_1 _) (by decide) rfl (fun ls hl => ?_)
          refine lv_goto (tgt := 4) hx hb dX4_openOf_37 (by decide) ?_
          exact ih4 (i + 1) ((tt) + (mopn (M) (i))) (by omega) (by omega) _ _ hP hD hS _ (lv_sub hl [0, 1, 2, 3] rfl)
  exact loop4 _ (0) (0) (Nat.zero_le _) (Nat.lt_succ_self _) _ _ hP hD hS _ (lv_sub hl [0, 1, 2, 3] rfl)
set_option maxHeartbeats 4000000 in
set_option maxRecDepth 100000 in
theorem c_X4_setFor_0 (l : Launch) (D : va_G) (cI cZ : ClassId) (a : Nat → Nat) (sz : Nat) (M : Nat → Nat → Int32) (n : Nat) (cu : Int32) (sm : Int32) (pl : Nat) (hM : M 2 0 = nI n) (hn : n ≤ 40) (h1 : ¬ cu < 0 ∧ cu < 8) (h3 : 1 ≤ sm) (h4 : pl < 3) : Met l yX4_setFor wsX4_setFor ({ frames := 5, cells := 0, slots := 0, locals := 117 } : Room) (va_Pc [.ref (a 0), .int (cu), .int (sm), .int (nI (pl))] (PreW D cI cZ (wM a cI cZ M) sz)) (va_Qi (fun (r : Int32) (u : Nat → Nat → Int32) => r = mstf M cu sm.toInt64 n pl ∧ u = mcS (pt M 0 0 0) (mcs (pt M 0 0 0) cu sm.toInt64 n)) (fun (u : Nat → Nat → Int32) => PostW D cI cZ (va_A (wM a cI cZ M) sz) (wM a cI cZ u)) (va_A (wM a cI cZ M) sz)) 0 0 (va_A (wM a cI cZ M) sz) := by
  refine Met.ofW (cc := cX4_setFor) (maxL := 5) (ret := (some .int)) (by decide) rfl ?_
  intro p e s m args below meth c s₁ BB hml hv
  obtain ⟨rfl, hsz, hP, hK, hD0⟩ := hv
  have hx := BB.exec
  have hb := BB.bytes
  have hr := BB.returns
  have hts := atoms_spec (ws := wsX4_setFor) BB.pre
  have hown : s.vm.findClass RX4 = some m.cls := findClass_of_methodNamed BB.named
  have hlocks := BB.notSynchronized
  clear BB
  subst hsz
  have hD := hD0.self (sz := s.heap.size)
  clear hD0
  generalize hAe : va_A (wM a cI cZ M) s.heap.size = A at hD ⊢
  have hA : ∀ q : Nat, s.heap.size ≤ q → A q := fun q h => by rw [← hAe]; exact Or.inr h
  clear hAe
  have hS : va_S A s.heap s.heap [] := va_S.rf
  have hl := lv_entry ([.ref (a 0), .int (cu), .int (sm), .int (nI (pl))]) (n := 5) (Nat.le_of_ble_eq_true rfl)
  rw [lg_entry_eq]
  generalize (lg_sl ([.ref (a 0), .int (cu), .int (sm), .int (nI (pl))]) ++ List.replicate (5 - (lg_sl ([.ref (a 0), .int (cu), .int (sm), .int (nI (pl))])).length) Slot.unset).toArray = ls at hl ⊢
  have hl : lv_has ls 5 [(0, .ref (a 0)), (1, .int (cu)), (2, .int (sm)), (3, .int (nI (pl)))] := hl
  generalize hHe : s.heap = H at hP
  have hS : va_S A s.heap H [] := by rw [← hHe]; exact va_S.rf
  clear hHe
  generalize hLe : ([] : List Loc) = locs at hS ⊢
  clear hLe
  refine lv_iload_n hx hb dX4_setFor_0 rfl (lv_at hl 1 rfl) ?_
  refine zcSi (wf := (fun (u : Unit) => (wM a cI cZ M))) (List.range 21) ⟨hx, hb, hml, hown, hts⟩ (zwNo 21 (by decide) rfl hP hD hS hA) hK (c_X4_isCustomer l D cI cZ a H.size (cu) ) (cwS 1 hts gX4_setFor_X4_isCustomer rfl rfl rfl (by decide +kernel) ⟨Nat.le_of_ble_eq_true rfl, Nat.le_of_ble_eq_true rfl⟩) (by decide) (fun _ => rfl) rfl hl.1 rfl (Nat.le_of_ble_eq_true rfl) dX4_setFor_1 ⟨Nat.le_of_ble_eq_true rfl, Nat.le_of_ble_eq_true rfl⟩ (fun r1 u H locs hw hP hD hS => ?_)
  subst hw
  refine lv_if_eq (tgt := 20) hx hb dX4_setFor_4 (by decide) (fun c4 => ?_) (fun c4 => ?_)
  · -- 4 taken
    have c4 := b2_0 c4
    exact absurd h1 c4
  · -- 4 on
    have c4 := b2_1 c4
    refine lv_iload_n hx hb dX4_setFor_7 rfl (lv_at hl 3 rfl) ?_
    refine lv_iconst (v := 0) hx hb dX4_setFor_8 (by decide) ?_
    refine lv_iconst (v := 2) hx hb dX4_setFor_9 (by decide) ?_
    refine zcSi (wf := (fun (u : Unit) => (wM a cI cZ M))) (List.range 21) ⟨hx, hb, hml, hown, hts⟩ (zwNo 21 (by decide) rfl hP hD hS hA) hK (c_X4_in l D cI cZ a H.size (nI (pl)) (0) (2) ) (cwS 3 hts gX4_setFor_X4_in rfl rfl rfl (by decide +kernel) ⟨Nat.le_of_ble_eq_true rfl, Nat.le_of_ble_eq_true rfl⟩) (by decide) (fun _ => rfl) rfl hl.1 rfl (Nat.le_of_ble_eq_true rfl) dX4_setFor_10 ⟨Nat.le_of_ble_eq_true rfl, Nat.le_of_ble_eq_true rfl⟩ (fun r10 u H locs hw hP hD hS => ?_)
    subst hw
    refine lv_if_eq (tgt := 20) hx hb dX4_setFor_13 (by decide) (fun c13 => ?_) (fun c13 => ?_)
    · -- 13 taken
      have c13 := b2_0 c13
      exact absurd ⟨nI_pos (by omega), le_of_lt3 h4⟩ c13
    · -- 13 on
      have c13 := b2_1 c13
      refine lv_iconst (v := 1) hx hb dX4_setFor_16 (by decide) ?_
      refine lv_goto (tgt := 21) hx hb dX4_setFor_17 (by decide) ?_
      refine lv_istore (lv' := [(4, .int (1)), (0, .ref (a 0)), (1, .int (cu)), (2, .int (sm)), (3, .int (nI (pl)))]) hx hb dX4_setFor_21 hl (by decide) rfl (fun ls hl => ?_)
      refine lv_aload_n hx hb dX4_setFor_23 rfl (lv_at hl 1 rfl) ?_
      refine lv_iload hx hb dX4_setFor_24 (lv_at hl 0 rfl) ?_
      refine lv_if_ne (tgt := 33) hx hb dX4_setFor_26 (by decide) (fun c26 => ?_) (fun c26 => ?_)
      · -- 26 taken
        refine lv_iload_n hx hb dX4_setFor_33 rfl (lv_at hl 3 rfl) ?_
        refine lv_iconst (v := 1) hx hb dX4_setFor_34 (by decide) ?_
        refine lv_icmp_ge (tgt := 42) hx hb dX4_setFor_35 (by decide) (fun c35 => ?_) (fun c35 => ?_)
        · -- 35 taken
          refine lv_iconst (v := 0) hx hb dX4_setFor_42 (by decide) ?_
          refine zcVi (ci := 4) (q0 := 0) (wf := (fun (u : Nat → Nat → Int32) => (wM a cI cZ u))) (List.range 21) ⟨hx, hb, hml, hown, hts⟩ (zwAll 21 (by decide) rfl hP hD hS hA) hK (c_X4_refused_0 l D cI cZ a H.size (M) (0) (by first | rfl | decide)) (cwV 1 hts gX4_setFor_X4_refused rfl rfl rfl (by decide +kernel) ⟨Nat.le_of_ble_eq_true rfl, Nat.le_of_ble_eq_true rfl⟩) rfl rfl (by decide) (fun _ => rfl) rfl hl.1 rfl (Nat.le_of_ble_eq_true rfl) dX4_setFor_43 ⟨Nat.le_of_ble_eq_true rfl, Nat.le_of_ble_eq_true rfl⟩ (fun r43 u H locs hw hP hD hS => ?_)
          obtain ⟨rfl, rfl⟩ := hw
          have hP : va_P D vwCl (wM a cI cZ (pt (M) 0 0 0)) H := hP
          have hD : va_D A (wM a cI cZ (pt (M) 0 0 0)) := hD
          refine lv_if_eq (tgt := 51) hx hb dX4_setFor_46 (by decide) (fun c46 => ?_) (fun c46 => ?_)
          · -- 46 taken
            refine lv_iload_n hx hb dX4_setFor_51 rfl (lv_at hl 4 rfl) ?_
            refine lv_aload_n hx hb dX4_setFor_52 rfl (lv_at hl 1 rfl) ?_
            refine lv_iload_n hx hb dX4_setFor_53 rfl (lv_at hl 2 rfl) ?_
            refine lv_iload_n hx hb dX4_setFor_54 rfl (lv_at hl 3 rfl) ?_
            refine lv_i2l (v := (sm).toInt64) hx hb dX4_setFor_55 rfl ?_
            refine zcVi (ci := 4) (q0 := 0) (wf := (fun (u : Nat → Nat → Int32) => (wM a cI cZ u))) (List.range 21) ⟨hx, hb, hml, hown, hts⟩ (zwAll 21 (by decide) rfl hP hD hS hA) hK (c_X4_choose l D cI cZ a H.size ((pt (M) 0 0 0)) (cu) ((sm).toInt64) (n) (by first | assumption | omega) (by first | assumption | omega)) (cwV 2 hts gX4_setFor_X4_choose rfl rfl rfl (by decide +kernel) ⟨Nat.le_of_ble_eq_true rfl, Nat.le_of_ble_eq_true rfl⟩) rfl rfl (by decide) (fun _ => rfl) rfl hl.1 rfl (Nat.le_of_ble_eq_true rfl) dX4_setFor_56 ⟨Nat.le_of_ble_eq_true rfl, Nat.le_of_ble_eq_true rfl⟩ (fun r56 u H locs hw hP hD hS => ?_)
            obtain ⟨rfl, rfl⟩ := hw
            have hP : va_P D vwCl (wM a cI cZ (mcS ((pt (M) 0 0 0)) (mcs ((pt (M) 0 0 0)) (cu) ((sm).toInt64) n))) H := hP
            have hD : va_D A (wM a cI cZ (mcS ((pt (M) 0 0 0)) (mcs ((pt (M) 0 0 0)) (cu) ((sm).toInt64) n))) := hD
            have hml3 := (mcs_y (pt M 0 0 0) cu sm.toInt64 n).1
            refine lv_icmp_ge (tgt := 71) hx hb dX4_setFor_59 (by decide) (fun c59 => ?_) (fun c59 => ?_)
            · -- 59 taken
              rw [nI_leI (by omega) (by omega)] at c59
              refine lv_iconst (v := (-1)) hx hb dX4_setFor_71 (by decide) ?_
              exact W.iret (v := (-1)) hx hb hr (fun t ht hW => ⟨⟨(-1), (mcS ((pt (M) 0 0 0)) (mcs ((pt (M) 0 0 0)) (cu) ((sm).toInt64) n)), rfl, ⟨by unfold mstf; rw [if_neg (show ¬ pl < _ from Nat.not_lt.mpr c59)], rfl⟩, by rw [ht]; exact hP, va_K.moved hW.alike hK, hD⟩, hS.F ht⟩) hS.2.2 dX4_setFor_72
            · -- 59 on
              rw [nI_leI (by omega) (by omega)] at c59
              refine lv_aload_n hx hb dX4_setFor_62 rfl (lv_at hl 1 rfl) ?_
              refine va_get (D := D) (ci := 4) (v := .ref (a 20)) (C := RX4) (T := TX4) (N := 24) hx hb hts (fun w h => List.mem_cons_of_mem _ (List.mem_append_right _ h)) hown hK hP 0 rfl rfl 23 (by decide) (hts (.fieldLink RX4 68 "CashAllocatorModel" "chosen" "[I") (by decide +kernel)) (fun _ h9 => h9) rfl dX4_setFor_63 ?_
              refine lv_iload_n hx hb dX4_setFor_66 rfl (lv_at hl 4 rfl) ?_
              refine zald hx hb hK hP 20 (n := 3) (f := ((mcS ((pt (M) 0 0 0)) (mcs ((pt (M) 0 0 0)) (cu) ((sm).toInt64) n)) 23)) rfl (pl) rfl (by omega) (by decide) dX4_setFor_67 ?_
              refine lv_goto (tgt := 72) hx hb dX4_setFor_68 (by decide) ?_
              exact W.iret (v := (mcS ((pt (M) 0 0 0)) (mcs ((pt (M) 0 0 0)) (cu) ((sm).toInt64) n)) 23 (pl)) hx hb hr (fun t ht hW => ⟨⟨(mcS ((pt (M) 0 0 0)) (mcs ((pt (M) 0 0 0)) (cu) ((sm).toInt64) n)) 23 (pl), (mcS ((pt (M) 0 0 0)) (mcs ((pt (M) 0 0 0)) (cu) ((sm).toInt64) n)), rfl, ⟨by unfold mstf; rw [if_pos (show pl < _ from Nat.lt_of_not_le c59)], rfl⟩, by rw [ht]; exact hP, va_K.moved hW.alike hK, hD⟩, hS.F ht⟩) hS.2.2 dX4_setFor_72
          · -- 46 on
            exact absurd c46 (by decide)
        · -- 35 on
          exact absurd h3 c35
      · -- 26 on
        exact absurd c26 (by decide)
set_option maxHeartbeats 4000000 in
set_option maxRecDepth 100000 in
theorem c_X4_setFor_k (l : Launch) (D : va_G) (cI cZ : ClassId) (a : Nat → Nat) (sz : Nat) (M : Nat → Nat → Int32) (cu : Int32) (sm : Int32) (pl : Int32) (hk : ¬ stfK cu sm pl = 0) : Met l yX4_setFor wsX4_setFor ({ frames := 5, cells := 0, slots := 0, locals := 117 } : Room) (va_Pc [.ref (a 0), .int (cu), .int (sm), .int (pl)] (PreW D cI cZ (wM a cI cZ M) sz)) (va_Qi (fun (r : Int32) (u : Nat → Nat → Int32) => r = 0 ∧ u = pt M 0 0 (nI (stfK cu sm pl))) (fun (u : Nat → Nat → Int32) => PostW D cI cZ (va_A (wM a cI cZ M) sz) (wM a cI cZ u)) (va_A (wM a cI cZ M) sz)) 0 0 (va_A (wM a cI cZ M) sz) := by
  refine Met.ofW (cc := cX4_setFor) (maxL := 5) (ret := (some .int)) (by decide) rfl ?_
  intro p e s m args below meth c s₁ BB hml hv
  obtain ⟨rfl, hsz, hP, hK, hD0⟩ := hv
  have hx := BB.exec
  have hb := BB.bytes
  have hr := BB.returns
  have hts := atoms_spec (ws := wsX4_setFor) BB.pre
  have hown : s.vm.findClass RX4 = some m.cls := findClass_of_methodNamed BB.named
  have hlocks := BB.notSynchronized
  clear BB
  subst hsz
  have hD := hD0.self (sz := s.heap.size)
  clear hD0
  generalize hAe : va_A (wM a cI cZ M) s.heap.size = A at hD ⊢
  have hA : ∀ q : Nat, s.heap.size ≤ q → A q := fun q h => by rw [← hAe]; exact Or.inr h
  clear hAe
  have hS : va_S A s.heap s.heap [] := va_S.rf
  have hl := lv_entry ([.ref (a 0), .int (cu), .int (sm), .int (pl)]) (n := 5) (Nat.le_of_ble_eq_true rfl)
  rw [lg_entry_eq]
  generalize (lg_sl ([.ref (a 0), .int (cu), .int (sm), .int (pl)]) ++ List.replicate (5 - (lg_sl ([.ref (a 0), .int (cu), .int (sm), .int (pl)])).length) Slot.unset).toArray = ls at hl ⊢
  have hl : lv_has ls 5 [(0, .ref (a 0)), (1, .int (cu)), (2, .int (sm)), (3, .int (pl))] := hl
  generalize hHe : s.heap = H at hP
  have hS : va_S A s.heap H [] := by rw [← hHe]; exact va_S.rf
  clear hHe
  generalize hLe : ([] : List Loc) = locs at hS ⊢
  clear hLe
  refine lv_iload_n hx hb dX4_setFor_0 rfl (lv_at hl 1 rfl) ?_
  refine zcSi (wf := (fun (u : Unit) => (wM a cI cZ M))) (List.range 21) ⟨hx, hb, hml, hown, hts⟩ (zwNo 21 (by decide) rfl hP hD hS hA) hK (c_X4_isCustomer l D cI cZ a H.size (cu) ) (cwS 1 hts gX4_setFor_X4_isCustomer rfl rfl rfl (by decide +kernel) ⟨Nat.le_of_ble_eq_true rfl, Nat.le_of_ble_eq_true rfl⟩) (by decide) (fun _ => rfl) rfl hl.1 rfl (Nat.le_of_ble_eq_true rfl) dX4_setFor_1 ⟨Nat.le_of_ble_eq_true rfl, Nat.le_of_ble_eq_true rfl⟩ (fun r1 u H locs hw hP hD hS => ?_)
  subst hw
  refine lv_if_eq (tgt := 20) hx hb dX4_setFor_4 (by decide) (fun c4 => ?_) (fun c4 => ?_)
  · -- 4 taken
    have c4 := b2_0 c4
    refine lv_iconst (v := 0) hx hb dX4_setFor_20 (by decide) ?_
    refine lv_istore (lv' := [(4, .int (0)), (0, .ref (a 0)), (1, .int (cu)), (2, .int (sm)), (3, .int (pl))]) hx hb dX4_setFor_21 hl (by decide) rfl (fun ls hl => ?_)
    refine lv_aload_n hx hb dX4_setFor_23 rfl (lv_at hl 1 rfl) ?_
    refine lv_iload hx hb dX4_setFor_24 (lv_at hl 0 rfl) ?_
    refine lv_if_ne (tgt := 33) hx hb dX4_setFor_26 (by decide) (fun c26 => ?_) (fun c26 => ?_)
    · -- 26 taken
      exact absurd c26 (by decide)
    · -- 26 on
      refine lv_iconst (v := 1) hx hb dX4_setFor_29 (by decide) ?_
      refine lv_goto (tgt := 43) hx hb dX4_setFor_30 (by decide) ?_
      refine zcVi (ci := 4) (q0 := 0) (wf := (fun (u : Nat → Nat → Int32) => (wM a cI cZ u))) (List.range 21) ⟨hx, hb, hml, hown, hts⟩ (zwAll 21 (by decide) rfl hP hD hS hA) hK (c_X4_refused_k l D cI cZ a H.size (M) (1) (by first | rfl | decide)) (cwV 1 hts gX4_setFor_X4_refused rfl rfl rfl (by decide +kernel) ⟨Nat.le_of_ble_eq_true rfl, Nat.le_of_ble_eq_true rfl⟩) rfl rfl (by decide) (fun _ => rfl) rfl hl.1 rfl (Nat.le_of_ble_eq_true rfl) dX4_setFor_43 ⟨Nat.le_of_ble_eq_true rfl, Nat.le_of_ble_eq_true rfl⟩ (fun r43 u H locs hw hP hD hS => ?_)
      obtain ⟨rfl, rfl⟩ := hw
      have hP : va_P D vwCl (wM a cI cZ (pt (M) 0 0 (1))) H := hP
      have hD : va_D A (wM a cI cZ (pt (M) 0 0 (1))) := hD
      refine lv_if_eq (tgt := 51) hx hb dX4_setFor_46 (by decide) (fun c46 => ?_) (fun c46 => ?_)
      · -- 46 taken
        exact absurd c46 (by decide)
      · -- 46 on
        refine lv_iconst (v := 0) hx hb dX4_setFor_49 (by decide) ?_
        exact W.iret (v := 0) hx hb hr (fun t ht hW => ⟨⟨0, (pt (M) 0 0 (1)), rfl, ⟨rfl, by rw [show stfK cu sm pl = 1 from if_pos (Or.inl (dp c4))]; rfl⟩, by rw [ht]; exact hP, va_K.moved hW.alike hK, hD⟩, hS.F ht⟩) hS.2.2 dX4_setFor_50
  · -- 4 on
    have c4 := b2_1 c4
    refine lv_iload_n hx hb dX4_setFor_7 rfl (lv_at hl 3 rfl) ?_
    refine lv_iconst (v := 0) hx hb dX4_setFor_8 (by decide) ?_
    refine lv_iconst (v := 2) hx hb dX4_setFor_9 (by decide) ?_
    refine zcSi (wf := (fun (u : Unit) => (wM a cI cZ M))) (List.range 21) ⟨hx, hb, hml, hown, hts⟩ (zwNo 21 (by decide) rfl hP hD hS hA) hK (c_X4_in l D cI cZ a H.size (pl) (0) (2) ) (cwS 3 hts gX4_setFor_X4_in rfl rfl rfl (by decide +kernel) ⟨Nat.le_of_ble_eq_true rfl, Nat.le_of_ble_eq_true rfl⟩) (by decide) (fun _ => rfl) rfl hl.1 rfl (Nat.le_of_ble_eq_true rfl) dX4_setFor_10 ⟨Nat.le_of_ble_eq_true rfl, Nat.le_of_ble_eq_true rfl⟩ (fun r10 u H locs hw hP hD hS => ?_)
    subst hw
    refine lv_if_eq (tgt := 20) hx hb dX4_setFor_13 (by decide) (fun c13 => ?_) (fun c13 => ?_)
    · -- 13 taken
      have c13 := b2_0 c13
      refine lv_iconst (v := 0) hx hb dX4_setFor_20 (by decide) ?_
      refine lv_istore (lv' := [(4, .int (0)), (0, .ref (a 0)), (1, .int (cu)), (2, .int (sm)), (3, .int (pl))]) hx hb dX4_setFor_21 hl (by decide) rfl (fun ls hl => ?_)
      refine lv_aload_n hx hb dX4_setFor_23 rfl (lv_at hl 1 rfl) ?_
      refine lv_iload hx hb dX4_setFor_24 (lv_at hl 0 rfl) ?_
      refine lv_if_ne (tgt := 33) hx hb dX4_setFor_26 (by decide) (fun c26 => ?_) (fun c26 => ?_)
      · -- 26 taken
        exact absurd c26 (by decide)
      · -- 26 on
        refine lv_iconst (v := 1) hx hb dX4_setFor_29 (by decide) ?_
        refine lv_goto (tgt := 43) hx hb dX4_setFor_30 (by decide) ?_
        refine zcVi (ci := 4) (q0 := 0) (wf := (fun (u : Nat → Nat → Int32) => (wM a cI cZ u))) (List.range 21) ⟨hx, hb, hml, hown, hts⟩ (zwAll 21 (by decide) rfl hP hD hS hA) hK (c_X4_refused_k l D cI cZ a H.size (M) (1) (by first | rfl | decide)) (cwV 1 hts gX4_setFor_X4_refused rfl rfl rfl (by decide +kernel) ⟨Nat.le_of_ble_eq_true rfl, Nat.le_of_ble_eq_true rfl⟩) rfl rfl (by decide) (fun _ => rfl) rfl hl.1 rfl (Nat.le_of_ble_eq_true rfl) dX4_setFor_43 ⟨Nat.le_of_ble_eq_true rfl, Nat.le_of_ble_eq_true rfl⟩ (fun r43 u H locs hw hP hD hS => ?_)
        obtain ⟨rfl, rfl⟩ := hw
        have hP : va_P D vwCl (wM a cI cZ (pt (M) 0 0 (1))) H := hP
        have hD : va_D A (wM a cI cZ (pt (M) 0 0 (1))) := hD
        refine lv_if_eq (tgt := 51) hx hb dX4_setFor_46 (by decide) (fun c46 => ?_) (fun c46 => ?_)
        · -- 46 taken
          exact absurd c46 (by decide)
        · -- 46 on
          refine lv_iconst (v := 0) hx hb dX4_setFor_49 (by decide) ?_
          exact W.iret (v := 0) hx hb hr (fun t ht hW => ⟨⟨0, (pt (M) 0 0 (1)), rfl, ⟨rfl, by rw [show stfK cu sm pl = 1 from if_pos (Or.inr (dp (fun z => c13 (pl3r z))))]; rfl⟩, by rw [ht]; exact hP, va_K.moved hW.alike hK, hD⟩, hS.F ht⟩) hS.2.2 dX4_setFor_50
    · -- 13 on
      have c13 := b2_1 c13
      refine lv_iconst (v := 1) hx hb dX4_setFor_16 (by decide) ?_
      refine lv_goto (tgt := 21) hx hb dX4_setFor_17 (by decide) ?_
      refine lv_istore (lv' := [(4, .int (1)), (0, .ref (a 0)), (1, .int (cu)), (2, .int (sm)), (3, .int (pl))]) hx hb dX4_setFor_21 hl (by decide) rfl (fun ls hl => ?_)
      refine lv_aload_n hx hb dX4_setFor_23 rfl (lv_at hl 1 rfl) ?_
      refine lv_iload hx hb dX4_setFor_24 (lv_at hl 0 rfl) ?_
      refine lv_if_ne (tgt := 33) hx hb dX4_setFor_26 (by decide) (fun c26 => ?_) (fun c26 => ?_)
      · -- 26 taken
        refine lv_iload_n hx hb dX4_setFor_33 rfl (lv_at hl 3 rfl) ?_
        refine lv_iconst (v := 1) hx hb dX4_setFor_34 (by decide) ?_
        refine lv_icmp_ge (tgt := 42) hx hb dX4_setFor_35 (by decide) (fun c35 => ?_) (fun c35 => ?_)
        · -- 35 taken
          refine lv_iconst (v := 0) hx hb dX4_setFor_42 (by decide) ?_
          refine zcVi (ci := 4) (q0 := 0) (wf := (fun (u : Nat → Nat → Int32) => (wM a cI cZ u))) (List.range 21) ⟨hx, hb, hml, hown, hts⟩ (zwAll 21 (by decide) rfl hP hD hS hA) hK (c_X4_refused_0 l D cI cZ a H.size (M) (0) (by first | rfl | decide)) (cwV 1 hts gX4_setFor_X4_refused rfl rfl rfl (by decide +kernel) ⟨Nat.le_of_ble_eq_true rfl, Nat.le_of_ble_eq_true rfl⟩) rfl rfl (by decide) (fun _ => rfl) rfl hl.1 rfl (Nat.le_of_ble_eq_true rfl) dX4_setFor_43 ⟨Nat.le_of_ble_eq_true rfl, Nat.le_of_ble_eq_true rfl⟩ (fun r43 u H locs hw hP hD hS => ?_)
          obtain ⟨rfl, rfl⟩ := hw
          have hP : va_P D vwCl (wM a cI cZ (pt (M) 0 0 0)) H := hP
          have hD : va_D A (wM a cI cZ (pt (M) 0 0 0)) := hD
          refine lv_if_eq (tgt := 51) hx hb dX4_setFor_46 (by decide) (fun c46 => ?_) (fun c46 => ?_)
          · -- 46 taken
            exact absurd (show stfK cu sm pl = 0 from (if_neg (not_or.mpr ⟨dn c4, dn (pl3 c13)⟩)).trans (if_neg (not_lt_of_ge32 c35))) hk
          · -- 46 on
            exact absurd c46 (by decide)
        · -- 35 on
          refine lv_iconst (v := 2) hx hb dX4_setFor_38 (by decide) ?_
          refine lv_goto (tgt := 43) hx hb dX4_setFor_39 (by decide) ?_
          refine zcVi (ci := 4) (q0 := 0) (wf := (fun (u : Nat → Nat → Int32) => (wM a cI cZ u))) (List.range 21) ⟨hx, hb, hml, hown, hts⟩ (zwAll 21 (by decide) rfl hP hD hS hA) hK (c_X4_refused_k l D cI cZ a H.size (M) (2) (by first | rfl | decide)) (cwV 1 hts gX4_setFor_X4_refused rfl rfl rfl (by decide +kernel) ⟨Nat.le_of_ble_eq_true rfl, Nat.le_of_ble_eq_true rfl⟩) rfl rfl (by decide) (fun _ => rfl) rfl hl.1 rfl (Nat.le_of_ble_eq_true rfl) dX4_setFor_43 ⟨Nat.le_of_ble_eq_true rfl, Nat.le_of_ble_eq_true rfl⟩ (fun r43 u H locs hw hP hD hS => ?_)
          obtain ⟨rfl, rfl⟩ := hw
          have hP : va_P D vwCl (wM a cI cZ (pt (M) 0 0 (2))) H := hP
          have hD : va_D A (wM a cI cZ (pt (M) 0 0 (2))) := hD
          refine lv_if_eq (tgt := 51) hx hb dX4_setFor_46 (by decide) (fun c46 => ?_) (fun c46 => ?_)
          · -- 46 taken
            exact absurd c46 (by decide)
          · -- 46 on
            refine lv_iconst (v := 0) hx hb dX4_setFor_49 (by decide) ?_
            exact W.iret (v := 0) hx hb hr (fun t ht hW => ⟨⟨0, (pt (M) 0 0 (2)), rfl, ⟨rfl, by rw [show stfK cu sm pl = 2 from (if_neg (not_or.mpr ⟨dn c4, dn (pl3 c13)⟩)).trans (if_pos (lt_of_nge32 c35))]; rfl⟩, by rw [ht]; exact hP, va_K.moved hW.alike hK, hD⟩, hS.F ht⟩) hS.2.2 dX4_setFor_50
      · -- 26 on
        exact absurd c26 (by decide)
set_option maxHeartbeats 4000000 in
set_option maxRecDepth 100000 in
theorem c_X4_received (l : Launch) (D : va_G) (cI cZ : ClassId) (a : Nat → Nat) (sz : Nat) (M : Nat → Nat → Int32) (q : Nat) (hMq : M 15 0 = nI q) (hq : q ≤ 30) : Met l yX4_received wsX4_received ({ frames := 1, cells := 0, slots := 0, locals := 23 } : Room) (va_Pc [.ref (a 0)] (PreW D cI cZ (wM a cI cZ M) sz)) (va_Qi (fun (r : Int32) (u : Nat → Nat → Int32) => r = l_sum (M 16) q ∧ u = pt M 0 0 0) (fun (u : Nat → Nat → Int32) => PostW D cI cZ (va_A (wM a cI cZ M) sz) (wM a cI cZ u)) (va_A (wM a cI cZ M) sz)) 0 0 (va_A (wM a cI cZ M) sz) := by
  refine Met.ofW (cc := cX4_received) (maxL := 1) (ret := (some .int)) (by decide) rfl ?_
  intro p e s m args below meth c s₁ BB hml hv
  obtain ⟨rfl, hsz, hP, hK, hD0⟩ := hv
  have hx := BB.exec
  have hb := BB.bytes
  have hr := BB.returns
  have hts := atoms_spec (ws := wsX4_received) BB.pre
  have hown : s.vm.findClass RX4 = some m.cls := findClass_of_methodNamed BB.named
  have hlocks := BB.notSynchronized
  clear BB
  subst hsz
  have hD := hD0.self (sz := s.heap.size)
  clear hD0
  generalize hAe : va_A (wM a cI cZ M) s.heap.size = A at hD ⊢
  have hA : ∀ q : Nat, s.heap.size ≤ q → A q := fun q h => by rw [← hAe]; exact Or.inr h
  clear hAe
  have hS : va_S A s.heap s.heap [] := va_S.rf
  have hl := lv_entry ([.ref (a 0)]) (n := 1) (Nat.le_of_ble_eq_true rfl)
  rw [lg_entry_eq]
  generalize (lg_sl ([.ref (a 0)]) ++ List.replicate (1 - (lg_sl ([.ref (a 0)])).length) Slot.unset).toArray = ls at hl ⊢
  have hl : lv_has ls 1 [(0, .ref (a 0))] := hl
  generalize hHe : s.heap = H at hP
  have hS : va_S A s.heap H [] := by rw [← hHe]; exact va_S.rf
  clear hHe
  generalize hLe : ([] : List Loc) = locs at hS ⊢
  clear hLe
  refine lv_aload_n hx hb dX4_received_0 rfl (lv_at hl 0 rfl) ?_
  refine lv_aload_n hx hb dX4_received_1 rfl (lv_at hl 0 rfl) ?_
  refine lv_aload_n hx hb dX4_received_2 rfl (lv_at hl 0 rfl) ?_
  refine va_get (D := D) (ci := 4) (v := .ref (a 13)) (C := RX4) (T := TX4) (N := 24) hx hb hts (fun w h => List.mem_cons_of_mem _ (List.mem_append_right _ h)) hown hK hP 0 rfl rfl 16 (by decide) (hts (.fieldLink RX4 46 "CashAllocatorModel" "sums" "[I") (by decide +kernel)) (fun _ h9 => h9) rfl dX4_received_3 ?_
  refine zcVi (ci := 4) (q0 := 0) (wf := (fun (u : Unit) => (wM a cI cZ M))) (List.range 21) ⟨hx, hb, hml, hown, hts⟩ (zwAll 21 (by decide) rfl hP hD hS hA) hK (c_X4_all_16 l D cI cZ a H.size (M) (q) (by first | assumption | omega) (by first | assumption | omega)) (cwV 1 hts gX4_received_X4_all rfl rfl rfl (by decide +kernel) ⟨Nat.le_of_ble_eq_true rfl, Nat.le_of_ble_eq_true rfl⟩) rfl rfl (by decide) (fun _ => rfl) rfl hl.1 rfl (Nat.le_of_ble_eq_true rfl) dX4_received_6 ⟨Nat.le_of_ble_eq_true rfl, Nat.le_of_ble_eq_true rfl⟩ (fun r6 u H locs hw hP hD hS => ?_)
  subst hw
  refine zcVi (ci := 4) (q0 := 0) (wf := (fun (u : Nat → Nat → Int32) => (wM a cI cZ u))) (List.range 21) ⟨hx, hb, hml, hown, hts⟩ (zwAll 21 (by decide) rfl hP hD hS hA) hK (c_X4_fine l D cI cZ a H.size (M) (l_sum ((M) 16) q) ) (cwV 1 hts gX4_received_X4_fine rfl rfl rfl (by decide +kernel) ⟨Nat.le_of_ble_eq_true rfl, Nat.le_of_ble_eq_true rfl⟩) rfl rfl (by decide) (fun _ => rfl) rfl hl.1 rfl (Nat.le_of_ble_eq_true rfl) dX4_received_9 ⟨Nat.le_of_ble_eq_true rfl, Nat.le_of_ble_eq_true rfl⟩ (fun r9 u H locs hw hP hD hS => ?_)
  obtain ⟨rfl, rfl⟩ := hw
  have hP : va_P D vwCl (wM a cI cZ (pt (M) 0 0 0)) H := hP
  have hD : va_D A (wM a cI cZ (pt (M) 0 0 0)) := hD
  exact W.iret (v := (l_sum ((M) 16) q)) hx hb hr (fun t ht hW => ⟨⟨(l_sum ((M) 16) q), (pt (M) 0 0 0), rfl, ⟨rfl, rfl⟩, by rw [ht]; exact hP, va_K.moved hW.alike hK, hD⟩, hS.F ht⟩) hS.2.2 dX4_received_12
set_option maxHeartbeats 4000000 in
set_option maxRecDepth 100000 in
theorem c_X4_allUnapplied (l : Launch) (D : va_G) (cI cZ : ClassId) (a : Nat → Nat) (sz : Nat) (M : Nat → Nat → Int32) (q : Nat) (hMq : M 15 0 = nI q) (hq : q ≤ 30) : Met l yX4_allUnapplied wsX4_allUnapplied ({ frames := 1, cells := 0, slots := 0, locals := 23 } : Room) (va_Pc [.ref (a 0)] (PreW D cI cZ (wM a cI cZ M) sz)) (va_Qi (fun (r : Int32) (u : Nat → Nat → Int32) => r = l_sum (M 18) q ∧ u = pt M 0 0 0) (fun (u : Nat → Nat → Int32) => PostW D cI cZ (va_A (wM a cI cZ M) sz) (wM a cI cZ u)) (va_A (wM a cI cZ M) sz)) 0 0 (va_A (wM a cI cZ M) sz) := by
  refine Met.ofW (cc := cX4_allUnapplied) (maxL := 1) (ret := (some .int)) (by decide) rfl ?_
  intro p e s m args below meth c s₁ BB hml hv
  obtain ⟨rfl, hsz, hP, hK, hD0⟩ := hv
  have hx := BB.exec
  have hb := BB.bytes
  have hr := BB.returns
  have hts := atoms_spec (ws := wsX4_allUnapplied) BB.pre
  have hown : s.vm.findClass RX4 = some m.cls := findClass_of_methodNamed BB.named
  have hlocks := BB.notSynchronized
  clear BB
  subst hsz
  have hD := hD0.self (sz := s.heap.size)
  clear hD0
  generalize hAe : va_A (wM a cI cZ M) s.heap.size = A at hD ⊢
  have hA : ∀ q : Nat, s.heap.size ≤ q → A q := fun q h => by rw [← hAe]; exact Or.inr h
  clear hAe
  have hS : va_S A s.heap s.heap [] := va_S.rf
  have hl := lv_entry ([.ref (a 0)]) (n := 1) (Nat.le_of_ble_eq_true rfl)
  rw [lg_entry_eq]
  generalize (lg_sl ([.ref (a 0)]) ++ List.replicate (1 - (lg_sl ([.ref (a 0)])).length) Slot.unset).toArray = ls at hl ⊢
  have hl : lv_has ls 1 [(0, .ref (a 0))] := hl
  generalize hHe : s.heap = H at hP
  have hS : va_S A s.heap H [] := by rw [← hHe]; exact va_S.rf
  clear hHe
  generalize hLe : ([] : List Loc) = locs at hS ⊢
  clear hLe
  refine lv_aload_n hx hb dX4_allUnapplied_0 rfl (lv_at hl 0 rfl) ?_
  refine lv_aload_n hx hb dX4_allUnapplied_1 rfl (lv_at hl 0 rfl) ?_
  refine lv_aload_n hx hb dX4_allUnapplied_2 rfl (lv_at hl 0 rfl) ?_
  refine va_get (D := D) (ci := 4) (v := .ref (a 15)) (C := RX4) (T := TX4) (N := 24) hx hb hts (fun w h => List.mem_cons_of_mem _ (List.mem_append_right _ h)) hown hK hP 0 rfl rfl 18 (by decide) (hts (.fieldLink RX4 52 "CashAllocatorModel" "left" "[I") (by decide +kernel)) (fun _ h9 => h9) rfl dX4_allUnapplied_3 ?_
  refine zcVi (ci := 4) (q0 := 0) (wf := (fun (u : Unit) => (wM a cI cZ M))) (List.range 21) ⟨hx, hb, hml, hown, hts⟩ (zwAll 21 (by decide) rfl hP hD hS hA) hK (c_X4_all_18 l D cI cZ a H.size (M) (q) (by first | assumption | omega) (by first | assumption | omega)) (cwV 1 hts gX4_allUnapplied_X4_all rfl rfl rfl (by decide +kernel) ⟨Nat.le_of_ble_eq_true rfl, Nat.le_of_ble_eq_true rfl⟩) rfl rfl (by decide) (fun _ => rfl) rfl hl.1 rfl (Nat.le_of_ble_eq_true rfl) dX4_allUnapplied_6 ⟨Nat.le_of_ble_eq_true rfl, Nat.le_of_ble_eq_true rfl⟩ (fun r6 u H locs hw hP hD hS => ?_)
  subst hw
  refine zcVi (ci := 4) (q0 := 0) (wf := (fun (u : Nat → Nat → Int32) => (wM a cI cZ u))) (List.range 21) ⟨hx, hb, hml, hown, hts⟩ (zwAll 21 (by decide) rfl hP hD hS hA) hK (c_X4_fine l D cI cZ a H.size (M) (l_sum ((M) 18) q) ) (cwV 1 hts gX4_allUnapplied_X4_fine rfl rfl rfl (by decide +kernel) ⟨Nat.le_of_ble_eq_true rfl, Nat.le_of_ble_eq_true rfl⟩) rfl rfl (by decide) (fun _ => rfl) rfl hl.1 rfl (Nat.le_of_ble_eq_true rfl) dX4_allUnapplied_9 ⟨Nat.le_of_ble_eq_true rfl, Nat.le_of_ble_eq_true rfl⟩ (fun r9 u H locs hw hP hD hS => ?_)
  obtain ⟨rfl, rfl⟩ := hw
  have hP : va_P D vwCl (wM a cI cZ (pt (M) 0 0 0)) H := hP
  have hD : va_D A (wM a cI cZ (pt (M) 0 0 0)) := hD
  exact W.iret (v := (l_sum ((M) 18) q)) hx hb hr (fun t ht hW => ⟨⟨(l_sum ((M) 18) q), (pt (M) 0 0 0), rfl, ⟨rfl, rfl⟩, by rw [ht]; exact hP, va_K.moved hW.alike hK, hD⟩, hS.F ht⟩) hS.2.2 dX4_allUnapplied_12
set_option maxHeartbeats 4000000 in
set_option maxRecDepth 100000 in
theorem c_X4_paidBack (l : Launch) (D : va_G) (cI cZ : ClassId) (a : Nat → Nat) (sz : Nat) (M : Nat → Nat → Int32) (q : Nat) (hMq : M 15 0 = nI q) (hq : q ≤ 30) : Met l yX4_paidBack wsX4_paidBack ({ frames := 1, cells := 0, slots := 0, locals := 23 } : Room) (va_Pc [.ref (a 0)] (PreW D cI cZ (wM a cI cZ M) sz)) (va_Qi (fun (r : Int32) (u : Nat → Nat → Int32) => r = l_sum (M 19) q ∧ u = pt M 0 0 0) (fun (u : Nat → Nat → Int32) => PostW D cI cZ (va_A (wM a cI cZ M) sz) (wM a cI cZ u)) (va_A (wM a cI cZ M) sz)) 0 0 (va_A (wM a cI cZ M) sz) := by
  refine Met.ofW (cc := cX4_paidBack) (maxL := 1) (ret := (some .int)) (by decide) rfl ?_
  intro p e s m args below meth c s₁ BB hml hv
  obtain ⟨rfl, hsz, hP, hK, hD0⟩ := hv
  have hx := BB.exec
  have hb := BB.bytes
  have hr := BB.returns
  have hts := atoms_spec (ws := wsX4_paidBack) BB.pre
  have hown : s.vm.findClass RX4 = some m.cls := findClass_of_methodNamed BB.named
  have hlocks := BB.notSynchronized
  clear BB
  subst hsz
  have hD := hD0.self (sz := s.heap.size)
  clear hD0
  generalize hAe : va_A (wM a cI cZ M) s.heap.size = A at hD ⊢
  have hA : ∀ q : Nat, s.heap.size ≤ q → A q := fun q h => by rw [← hAe]; exact Or.inr h
  clear hAe
  have hS : va_S A s.heap s.heap [] := va_S.rf
  have hl := lv_entry ([.ref (a 0)]) (n := 1) (Nat.le_of_ble_eq_true rfl)
  rw [lg_entry_eq]
  generalize (lg_sl ([.ref (a 0)]) ++ List.replicate (1 - (lg_sl ([.ref (a 0)])).length) Slot.unset).toArray = ls at hl ⊢
  have hl : lv_has ls 1 [(0, .ref (a 0))] := hl
  generalize hHe : s.heap = H at hP
  have hS : va_S A s.heap H [] := by rw [← hHe]; exact va_S.rf
  clear hHe
  generalize hLe : ([] : List Loc) = locs at hS ⊢
  clear hLe
  refine lv_aload_n hx hb dX4_paidBack_0 rfl (lv_at hl 0 rfl) ?_
  refine lv_aload_n hx hb dX4_paidBack_1 rfl (lv_at hl 0 rfl) ?_
  refine lv_aload_n hx hb dX4_paidBack_2 rfl (lv_at hl 0 rfl) ?_
  refine va_get (D := D) (ci := 4) (v := .ref (a 16)) (C := RX4) (T := TX4) (N := 24) hx hb hts (fun w h => List.mem_cons_of_mem _ (List.mem_append_right _ h)) hown hK hP 0 rfl rfl 19 (by decide) (hts (.fieldLink RX4 55 "CashAllocatorModel" "backs" "[I") (by decide +kernel)) (fun _ h9 => h9) rfl dX4_paidBack_3 ?_
  refine zcVi (ci := 4) (q0 := 0) (wf := (fun (u : Unit) => (wM a cI cZ M))) (List.range 21) ⟨hx, hb, hml, hown, hts⟩ (zwAll 21 (by decide) rfl hP hD hS hA) hK (c_X4_all_19 l D cI cZ a H.size (M) (q) (by first | assumption | omega) (by first | assumption | omega)) (cwV 1 hts gX4_paidBack_X4_all rfl rfl rfl (by decide +kernel) ⟨Nat.le_of_ble_eq_true rfl, Nat.le_of_ble_eq_true rfl⟩) rfl rfl (by decide) (fun _ => rfl) rfl hl.1 rfl (Nat.le_of_ble_eq_true rfl) dX4_paidBack_6 ⟨Nat.le_of_ble_eq_true rfl, Nat.le_of_ble_eq_true rfl⟩ (fun r6 u H locs hw hP hD hS => ?_)
  subst hw
  refine zcVi (ci := 4) (q0 := 0) (wf := (fun (u : Nat → Nat → Int32) => (wM a cI cZ u))) (List.range 21) ⟨hx, hb, hml, hown, hts⟩ (zwAll 21 (by decide) rfl hP hD hS hA) hK (c_X4_fine l D cI cZ a H.size (M) (l_sum ((M) 19) q) ) (cwV 1 hts gX4_paidBack_X4_fine rfl rfl rfl (by decide +kernel) ⟨Nat.le_of_ble_eq_true rfl, Nat.le_of_ble_eq_true rfl⟩) rfl rfl (by decide) (fun _ => rfl) rfl hl.1 rfl (Nat.le_of_ble_eq_true rfl) dX4_paidBack_9 ⟨Nat.le_of_ble_eq_true rfl, Nat.le_of_ble_eq_true rfl⟩ (fun r9 u H locs hw hP hD hS => ?_)
  obtain ⟨rfl, rfl⟩ := hw
  have hP : va_P D vwCl (wM a cI cZ (pt (M) 0 0 0)) H := hP
  have hD : va_D A (wM a cI cZ (pt (M) 0 0 0)) := hD
  exact W.iret (v := (l_sum ((M) 19) q)) hx hb hr (fun t ht hW => ⟨⟨(l_sum ((M) 19) q), (pt (M) 0 0 0), rfl, ⟨rfl, rfl⟩, by rw [ht]; exact hP, va_K.moved hW.alike hK, hD⟩, hS.F ht⟩) hS.2.2 dX4_paidBack_12
set_option maxHeartbeats 4000000 in
set_option maxRecDepth 100000 in
theorem c_X4_applied (l : Launch) (D : va_G) (cI cZ : ClassId) (a : Nat → Nat) (sz : Nat) (M : Nat → Nat → Int32) (q : Nat) (hMq : M 15 0 = nI q) (hq : q ≤ 30) : Met l yX4_applied wsX4_applied ({ frames := 1, cells := 0, slots := 0, locals := 23 } : Room) (va_Pc [.ref (a 0)] (PreW D cI cZ (wM a cI cZ M) sz)) (va_Qi (fun (r : Int32) (u : Nat → Nat → Int32) => r = l_sum (M 16) q - l_sum (M 18) q - l_sum (M 19) q - mbsm M q ∧ u = pt M 0 0 0) (fun (u : Nat → Nat → Int32) => PostW D cI cZ (va_A (wM a cI cZ M) sz) (wM a cI cZ u)) (va_A (wM a cI cZ M) sz)) 0 0 (va_A (wM a cI cZ M) sz) := by
  refine Met.ofW (cc := cX4_applied) (maxL := 1) (ret := (some .int)) (by decide) rfl ?_
  intro p e s m args below meth c s₁ BB hml hv
  obtain ⟨rfl, hsz, hP, hK, hD0⟩ := hv
  have hx := BB.exec
  have hb := BB.bytes
  have hr := BB.returns
  have hts := atoms_spec (ws := wsX4_applied) BB.pre
  have hown : s.vm.findClass RX4 = some m.cls := findClass_of_methodNamed BB.named
  have hlocks := BB.notSynchronized
  clear BB
  subst hsz
  have hD := hD0.self (sz := s.heap.size)
  clear hD0
  generalize hAe : va_A (wM a cI cZ M) s.heap.size = A at hD ⊢
  have hA : ∀ q : Nat, s.heap.size ≤ q → A q := fun q h => by rw [← hAe]; exact Or.inr h
  clear hAe
  have hS : va_S A s.heap s.heap [] := va_S.rf
  have hl := lv_entry ([.ref (a 0)]) (n := 1) (Nat.le_of_ble_eq_true rfl)
  rw [lg_entry_eq]
  generalize (lg_sl ([.ref (a 0)]) ++ List.replicate (1 - (lg_sl ([.ref (a 0)])).length) Slot.unset).toArray = ls at hl ⊢
  have hl : lv_has ls 1 [(0, .ref (a 0))] := hl
  generalize hHe : s.heap = H at hP
  have hS : va_S A s.heap H [] := by rw [← hHe]; exact va_S.rf
  clear hHe
  generalize hLe : ([] : List Loc) = locs at hS ⊢
  clear hLe
  refine lv_aload_n hx hb dX4_applied_0 rfl (lv_at hl 0 rfl) ?_
  refine lv_aload_n hx hb dX4_applied_1 rfl (lv_at hl 0 rfl) ?_
  refine lv_aload_n hx hb dX4_applied_2 rfl (lv_at hl 0 rfl) ?_
  refine va_get (D := D) (ci := 4) (v := .ref (a 13)) (C := RX4) (T := TX4) (N := 24) hx hb hts (fun w h => List.mem_cons_of_mem _ (List.mem_append_right _ h)) hown hK hP 0 rfl rfl 16 (by decide) (hts (.fieldLink RX4 46 "CashAllocatorModel" "sums" "[I") (by decide +kernel)) (fun _ h9 => h9) rfl dX4_applied_3 ?_
  refine zcVi (ci := 4) (q0 := 0) (wf := (fun (u : Unit) => (wM a cI cZ M))) (List.range 21) ⟨hx, hb, hml, hown, hts⟩ (zwAll 21 (by decide) rfl hP hD hS hA) hK (c_X4_all_16 l D cI cZ a H.size (M) (q) (by first | assumption | omega) (by first | assumption | omega)) (cwV 1 hts gX4_applied_X4_all rfl rfl rfl (by decide +kernel) ⟨Nat.le_of_ble_eq_true rfl, Nat.le_of_ble_eq_true rfl⟩) rfl rfl (by decide) (fun _ => rfl) rfl hl.1 rfl (Nat.le_of_ble_eq_true rfl) dX4_applied_6 ⟨Nat.le_of_ble_eq_true rfl, Nat.le_of_ble_eq_true rfl⟩ (fun r6 u H locs hw hP hD hS => ?_)
  subst hw
  refine lv_aload_n hx hb dX4_applied_9 rfl (lv_at hl 0 rfl) ?_
  refine lv_aload_n hx hb dX4_applied_10 rfl (lv_at hl 0 rfl) ?_
  refine va_get (D := D) (ci := 4) (v := .ref (a 15)) (C := RX4) (T := TX4) (N := 24) hx hb hts (fun w h => List.mem_cons_of_mem _ (List.mem_append_right _ h)) hown hK hP 0 rfl rfl 18 (by decide) (hts (.fieldLink RX4 52 "CashAllocatorModel" "left" "[I") (by decide +kernel)) (fun _ h9 => h9) rfl dX4_applied_11 ?_
  refine zcVi (ci := 4) (q0 := 0) (wf := (fun (u : Unit) => (wM a cI cZ M))) (List.range 21) ⟨hx, hb, hml, hown, hts⟩ (zwAll 21 (by decide) rfl hP hD hS hA) hK (c_X4_all_18 l D cI cZ a H.size (M) (q) (by first | assumption | omega) (by first | assumption | omega)) (cwV 1 hts gX4_applied_X4_all rfl rfl rfl (by decide +kernel) ⟨Nat.le_of_ble_eq_true rfl, Nat.le_of_ble_eq_true rfl⟩) rfl rfl (by decide) (fun _ => rfl) rfl hl.1 rfl (Nat.le_of_ble_eq_true rfl) dX4_applied_14 ⟨Nat.le_of_ble_eq_true rfl, Nat.le_of_ble_eq_true rfl⟩ (fun r14 u H locs hw hP hD hS => ?_)
  subst hw
  refine lv_isub hx hb dX4_applied_17 ?_
  refine lv_aload_n hx hb dX4_applied_18 rfl (lv_at hl 0 rfl) ?_
  refine lv_aload_n hx hb dX4_applied_19 rfl (lv_at hl 0 rfl) ?_
  refine va_get (D := D) (ci := 4) (v := .ref (a 16)) (C := RX4) (T := TX4) (N := 24) hx hb hts (fun w h => List.mem_cons_of_mem _ (List.mem_append_right _ h)) hown hK hP 0 rfl rfl 19 (by decide) (hts (.fieldLink RX4 55 "CashAllocatorModel" "backs" "[I") (by decide +kernel)) (fun _ h9 => h9) rfl dX4_applied_20 ?_
  refine zcVi (ci := 4) (q0 := 0) (wf := (fun (u : Unit) => (wM a cI cZ M))) (List.range 21) ⟨hx, hb, hml, hown, hts⟩ (zwAll 21 (by decide) rfl hP hD hS hA) hK (c_X4_all_19 l D cI cZ a H.size (M) (q) (by first | assumption | omega) (by first | assumption | omega)) (cwV 1 hts gX4_applied_X4_all rfl rfl rfl (by decide +kernel) ⟨Nat.le_of_ble_eq_true rfl, Nat.le_of_ble_eq_true rfl⟩) rfl rfl (by decide) (fun _ => rfl) rfl hl.1 rfl (Nat.le_of_ble_eq_true rfl) dX4_applied_23 ⟨Nat.le_of_ble_eq_true rfl, Nat.le_of_ble_eq_true rfl⟩ (fun r23 u H locs hw hP hD hS => ?_)
  subst hw
  refine lv_isub hx hb dX4_applied_26 ?_
  refine lv_aload_n hx hb dX4_applied_27 rfl (lv_at hl 0 rfl) ?_
  refine zcVi (ci := 4) (q0 := 0) (wf := (fun (u : Unit) => (wM a cI cZ M))) (List.range 21) ⟨hx, hb, hml, hown, hts⟩ (zwAll 21 (by decide) rfl hP hD hS hA) hK (c_X4_allBounced l D cI cZ a H.size (M) (q) (by first | assumption | omega) (by first | assumption | omega)) (cwV 0 hts gX4_applied_X4_allBounced rfl rfl rfl (by decide +kernel) ⟨Nat.le_of_ble_eq_true rfl, Nat.le_of_ble_eq_true rfl⟩) rfl rfl (by decide) (fun _ => rfl) rfl hl.1 rfl (Nat.le_of_ble_eq_true rfl) dX4_applied_28 ⟨Nat.le_of_ble_eq_true rfl, Nat.le_of_ble_eq_true rfl⟩ (fun r28 u H locs hw hP hD hS => ?_)
  subst hw
  refine lv_isub hx hb dX4_applied_31 ?_
  refine zcVi (ci := 4) (q0 := 0) (wf := (fun (u : Nat → Nat → Int32) => (wM a cI cZ u))) (List.range 21) ⟨hx, hb, hml, hown, hts⟩ (zwAll 21 (by decide) rfl hP hD hS hA) hK (c_X4_fine l D cI cZ a H.size (M) ((((l_sum ((M) 16) q) - (l_sum ((M) 18) q)) - (l_sum ((M) 19) q)) - (mbsm (M) q)) ) (cwV 1 hts gX4_applied_X4_fine rfl rfl rfl (by decide +kernel) ⟨Nat.le_of_ble_eq_true rfl, Nat.le_of_ble_eq_true rfl⟩) rfl rfl (by decide) (fun _ => rfl) rfl hl.1 rfl (Nat.le_of_ble_eq_true rfl) dX4_applied_32 ⟨Nat.le_of_ble_eq_true rfl, Nat.le_of_ble_eq_true rfl⟩ (fun r32 u H locs hw hP hD hS => ?_)
  obtain ⟨rfl, rfl⟩ := hw
  have hP : va_P D vwCl (wM a cI cZ (pt (M) 0 0 0)) H := hP
  have hD : va_D A (wM a cI cZ (pt (M) 0 0 0)) := hD
  exact W.iret (v := ((((l_sum ((M) 16) q) - (l_sum ((M) 18) q)) - (l_sum ((M) 19) q)) - (mbsm (M) q))) hx hb hr (fun t ht hW => ⟨⟨((((l_sum ((M) 16) q) - (l_sum ((M) 18) q)) - (l_sum ((M) 19) q)) - (mbsm (M) q)), (pt (M) 0 0 0), rfl, ⟨rfl, rfl⟩, by rw [ht]; exact hP, va_K.moved hW.alike hK, hD⟩, hS.F ht⟩) hS.2.2 dX4_applied_35
set_option maxHeartbeats 4000000 in
set_option maxRecDepth 100000 in
theorem c_X4_bounced (l : Launch) (D : va_G) (cI cZ : ClassId) (a : Nat → Nat) (sz : Nat) (M : Nat → Nat → Int32) (q : Nat) (hMq : M 15 0 = nI q) (hq : q ≤ 30) : Met l yX4_bounced wsX4_bounced ({ frames := 1, cells := 0, slots := 0, locals := 22 } : Room) (va_Pc [.ref (a 0)] (PreW D cI cZ (wM a cI cZ M) sz)) (va_Qi (fun (r : Int32) (u : Nat → Nat → Int32) => r = mbsm M q ∧ u = pt M 0 0 0) (fun (u : Nat → Nat → Int32) => PostW D cI cZ (va_A (wM a cI cZ M) sz) (wM a cI cZ u)) (va_A (wM a cI cZ M) sz)) 0 0 (va_A (wM a cI cZ M) sz) := by
  refine Met.ofW (cc := cX4_bounced) (maxL := 1) (ret := (some .int)) (by decide) rfl ?_
  intro p e s m args below meth c s₁ BB hml hv
  obtain ⟨rfl, hsz, hP, hK, hD0⟩ := hv
  have hx := BB.exec
  have hb := BB.bytes
  have hr := BB.returns
  have hts := atoms_spec (ws := wsX4_bounced) BB.pre
  have hown : s.vm.findClass RX4 = some m.cls := findClass_of_methodNamed BB.named
  have hlocks := BB.notSynchronized
  clear BB
  subst hsz
  have hD := hD0.self (sz := s.heap.size)
  clear hD0
  generalize hAe : va_A (wM a cI cZ M) s.heap.size = A at hD ⊢
  have hA : ∀ q : Nat, s.heap.size ≤ q → A q := fun q h => by rw [← hAe]; exact Or.inr h
  clear hAe
  have hS : va_S A s.heap s.heap [] := va_S.rf
  have hl := lv_entry ([.ref (a 0)]) (n := 1) (Nat.le_of_ble_eq_true rfl)
  rw [lg_entry_eq]
  generalize (lg_sl ([.ref (a 0)]) ++ List.replicate (1 - (lg_sl ([.ref (a 0)])).length) Slot.unset).toArray = ls at hl ⊢
  have hl : lv_has ls 1 [(0, .ref (a 0))] := hl
  generalize hHe : s.heap = H at hP
  have hS : va_S A s.heap H [] := by rw [← hHe]; exact va_S.rf
  clear hHe
  generalize hLe : ([] : List Loc) = locs at hS ⊢
  clear hLe
  refine lv_aload_n hx hb dX4_bounced_0 rfl (lv_at hl 0 rfl) ?_
  refine lv_aload_n hx hb dX4_bounced_1 rfl (lv_at hl 0 rfl) ?_
  refine zcVi (ci := 4) (q0 := 0) (wf := (fun (u : Unit) => (wM a cI cZ M))) (List.range 21) ⟨hx, hb, hml, hown, hts⟩ (zwAll 21 (by decide) rfl hP hD hS hA) hK (c_X4_allBounced l D cI cZ a H.size (M) (q) (by first | assumption | omega) (by first | assumption | omega)) (cwV 0 hts gX4_bounced_X4_allBounced rfl rfl rfl (by decide +kernel) ⟨Nat.le_of_ble_eq_true rfl, Nat.le_of_ble_eq_true rfl⟩) rfl rfl (by decide) (fun _ => rfl) rfl hl.1 rfl (Nat.le_of_ble_eq_true rfl) dX4_bounced_2 ⟨Nat.le_of_ble_eq_true rfl, Nat.le_of_ble_eq_true rfl⟩ (fun r2 u H locs hw hP hD hS => ?_)
  subst hw
  refine zcVi (ci := 4) (q0 := 0) (wf := (fun (u : Nat → Nat → Int32) => (wM a cI cZ u))) (List.range 21) ⟨hx, hb, hml, hown, hts⟩ (zwAll 21 (by decide) rfl hP hD hS hA) hK (c_X4_fine l D cI cZ a H.size (M) (mbsm (M) q) ) (cwV 1 hts gX4_bounced_X4_fine rfl rfl rfl (by decide +kernel) ⟨Nat.le_of_ble_eq_true rfl, Nat.le_of_ble_eq_true rfl⟩) rfl rfl (by decide) (fun _ => rfl) rfl hl.1 rfl (Nat.le_of_ble_eq_true rfl) dX4_bounced_5 ⟨Nat.le_of_ble_eq_true rfl, Nat.le_of_ble_eq_true rfl⟩ (fun r5 u H locs hw hP hD hS => ?_)
  obtain ⟨rfl, rfl⟩ := hw
  have hP : va_P D vwCl (wM a cI cZ (pt (M) 0 0 0)) H := hP
  have hD : va_D A (wM a cI cZ (pt (M) 0 0 0)) := hD
  exact W.iret (v := (mbsm (M) q)) hx hb hr (fun t ht hW => ⟨⟨(mbsm (M) q), (pt (M) 0 0 0), rfl, ⟨rfl, rfl⟩, by rw [ht]; exact hP, va_K.moved hW.alike hK, hD⟩, hS.F ht⟩) hS.2.2 dX4_bounced_8
