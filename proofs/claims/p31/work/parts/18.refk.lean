/-! Which exception a call throws that the law makes to be refused. -/
section RK
variable {B R : Nat → Nat → Int32} {n q x : Nat} {cu am rf rt dy vx vb sm pl : Int32}
theorem bk1 (h : cu < 0 ∨ ¬ cu < 8) : billK n cu am rf rt dy = 1 := if_pos h
theorem bk2 (h1 : ¬ cu < 0) (h2 : cu < 8) (h : (am < 1 ∨ ¬ am ≤ 1000000) ∨ (rf < 1 ∨ ¬ rf ≤ 9999) ∨ (rt < 0 ∨ ¬ rt ≤ 10000) ∨ (dy < 0 ∨ ¬ dy ≤ 90)) : billK n cu am rf rt dy = 2 := by
  unfold billK
  rw [if_neg (fun z => z.elim h1 (fun y => y h2)), if_pos h]
theorem bk3 : billK 40 (nI 0) (nI 1) (nI 1) (nI 0) (nI 0) = 3 := by decide +kernel
theorem rk1 (h0 : ¬ cu = -1) (h : cu < 0 ∨ ¬ cu < 8) : rcvK q cu am rf = 1 := if_pos ⟨h0, h⟩
theorem rk2 (h0 : cu = -1 ∨ (¬ cu < 0 ∧ cu < 8)) (h : (am < 1 ∨ ¬ am ≤ 1000000) ∨ (rf < 0 ∨ ¬ rf ≤ 9999)) : rcvK q cu am rf = 2 := by
  unfold rcvK
  rw [if_neg (fun z => h0.elim z.1 (fun y => z.2.elim y.1 (fun w => w y.2))), if_pos h]
theorem rk3 : rcvK 30 (-1) (nI 1) (nI 0) = 3 := by decide +kernel
theorem ak1 (h : vx < 0 ∨ ¬ vx < R 8 0) : asgK R vx cu = 1 := if_pos (Or.inl h)
theorem ak1' (h : cu < 0 ∨ ¬ cu < 8) : asgK R vx cu = 1 := if_pos (Or.inr h)
theorem ak2 {j : Nat} (hR : R 8 0 = nI q) (hq : q ≤ 30) (hj : j < q) (h1 : ¬ cu < 0) (h2 : cu < 8) (h : ¬ R 5 j = 0 ∨ ¬ R 0 j = -1) : asgK R (nI j) cu = 2 := by
  unfold asgK
  rw [hR, nI_clamp (by omega), if_neg (fun z => z.elim (fun y => y.elim (nI_pos (by omega)) (fun w => w (nI_lt hj (by omega)))) (fun y => y.elim h1 (fun w => w h2))), if_pos h]
theorem pk1 (h : vx < 0 ∨ ¬ vx < R 8 0) : aplK R vx = 1 := if_pos h
theorem pk2 {j : Nat} (hR : R 8 0 = nI q) (hq : q ≤ 30) (hj : j < q) (h : ¬ R 5 j = 0 ∨ R 0 j = -1) : aplK R (nI j) = 2 := by
  unfold aplK
  rw [hR, nI_clamp (by omega), if_neg (fun y => y.elim (nI_pos (by omega)) (fun w => w (nI_lt hj (by omega)))), if_pos h]
theorem yk1 (h : vx < 0 ∨ ¬ vx < R 8 0) : pbkK R vx = 1 := if_pos h
theorem yk2 {j : Nat} (hR : R 8 0 = nI q) (hq : q ≤ 30) (hj : j < q) (h : ¬ R 5 j = 0 ∨ R 3 j = 0) : pbkK R (nI j) = 2 := by
  unfold pbkK
  rw [hR, nI_clamp (by omega), if_neg (fun y => y.elim (nI_pos (by omega)) (fun w => w (nI_lt hj (by omega)))), if_pos h]
theorem ck1 (h : vx < 0 ∨ ¬ vx < R 8 0) : bncK R vx = 1 := if_pos h
theorem ck2 {j : Nat} (hR : R 8 0 = nI q) (hq : q ≤ 30) (hj : j < q) (h : ¬ R 5 j = 0 ∨ ¬ R 4 j ≤ 0) : bncK R (nI j) = 2 := by
  unfold bncK
  rw [hR, nI_clamp (by omega), if_neg (fun y => y.elim (nI_pos (by omega)) (fun w => w (nI_lt hj (by omega)))), if_pos h]
theorem sk1 (h : vx < 0 ∨ ¬ vx < B 11 0) : stlK B vx = 1 := if_pos h
theorem sk2 {j : Nat} (hB : B 11 0 = nI n) (hn : n ≤ 40) (hj : j < n) (h : B 8 j = 0) : stlK B (nI j) = 2 := by
  unfold stlK
  rw [hB, nI_clamp (by omega), if_neg (fun y => y.elim (nI_pos (by omega)) (fun w => w (nI_lt hj (by omega)))), if_pos h]
theorem tk1 (h : (cu < 0 ∨ ¬ cu < 8) ∨ (pl < 0 ∨ ¬ pl < 3)) : stfK cu sm pl = 1 := if_pos h
theorem tk2 (h1 : ¬ cu < 0) (h2 : cu < 8) (h3 : ¬ pl < 0) (h4 : pl < 3) (h : sm < 1) : stfK cu sm pl = 2 := by
  unfold stfK
  rw [if_neg (fun z => z.elim (fun y => y.elim h1 (fun w => w h2)) (fun y => y.elim h3 (fun w => w h4))), if_pos h]
/-- a customer of the law's -/
theorem m8 (x : Nat) : ¬ nI (x % 8) < 0 ∧ nI (x % 8) < 8 := ⟨nI_pos (by omega), nI_lt (b := 8) (by omega) (by decide)⟩
theorem ov {v k : Nat} (h : k < v) (hv : v < 2 ^ 31) : ¬ nI v ≤ nI k := nI_ge h hv
theorem ng2 : ∀ j, j < 50 → (-2 : Int32) - nI j < 0 ∧ ¬ ((-2 : Int32) - nI j = -1) := by decide +kernel
theorem ng1 : ∀ j, j < 50 → (-1 : Int32) - nI j < 0 := by decide +kernel
theorem p8 {j : Nat} (h : j < 2 ^ 31) (h8 : 8 ≤ j) : ¬ nI j < 8 ∧ ¬ nI j = -1 := ⟨nI_nlt (b := 8) h8 h, nI_m1 h⟩
theorem le_neg {v : Nat} (h : v < 2 ^ 31) : -nI v < 1 := by
  have h1 : (1 : Int32).toInt = 1 := by decide
  rw [Int32.lt_iff_toInt_lt, sb_negT h, h1]
  omega
end RK
