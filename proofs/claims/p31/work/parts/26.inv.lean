/-! What holds of a desk between two calls of the law. -/
theorem fb_rng (x : Int32) : -2147483648 ≤ x.toInt ∧ x.toInt < 2147483648 := by
  have h1 := Int32.le_toInt x
  have h2 := Int32.toInt_lt x
  exact ⟨h1, h2⟩
theorem fb_bmod {z : Int} (h1 : -2147483648 ≤ z) (h2 : z < 2147483648) : z.bmod (2 ^ 32) = z := by
  rw [Int.bmod_eq_of_le] <;> omega
theorem fb_addI {x y : Int32} (h1 : -2147483648 ≤ x.toInt + y.toInt) (h2 : x.toInt + y.toInt < 2147483648) : (x + y).toInt = x.toInt + y.toInt := by
  rw [Int32.toInt_add, fb_bmod h1 h2]
theorem fb_subI {x y : Int32} (h1 : -2147483648 ≤ x.toInt - y.toInt) (h2 : x.toInt - y.toInt < 2147483648) : (x - y).toInt = x.toInt - y.toInt := by
  rw [Int32.toInt_sub, fb_bmod h1 h2]
theorem i0 : (0 : Int32).toInt = 0 := by decide
theorem i1 : (1 : Int32).toInt = 1 := by decide
theorem im1 : (-1 : Int32).toInt = -1 := by decide
theorem eqI {x y : Int32} (h : x.toInt = y.toInt) : x = y := Int32.toInt_inj.mp h
theorem leI {x y : Int32} : x ≤ y ↔ x.toInt ≤ y.toInt := Int32.le_iff_toInt_le
theorem ltI {x y : Int32} : x < y ↔ x.toInt < y.toInt := Int32.lt_iff_toInt_lt
/-- sums of integers -/
def sI (f : Nat → Int) : Nat → Int
  | 0 => 0
  | k + 1 => sI f k + f k
/-- the bills: mm their amounts, ww their customers -/
def BI (B : TBL) (n q : Nat) (mm ww : Nat → Int32) : Prop :=
  B 11 0 = nI n ∧ n ≤ 40 ∧
  (∀ i, i < n → B 0 i = ww i ∧ B 1 i = mm i ∧ (ww i = 0 ∨ ww i = 1) ∧ 0 ≤ (mm i).toInt ∧ (mm i).toInt ≤ 10000 ∧ 0 ≤ (B 3 i).toInt ∧ (B 3 i).toInt ≤ (mm i).toInt ∧ (B 7 i).toInt < q) ∧
  (∀ i, i < 40 → 0 ≤ (B 5 i).toInt ∧ 0 ≤ (B 6 i).toInt ∧ 0 ≤ (B 8 i).toInt ∧ 0 ≤ (B 10 i).toInt ∧
    (i < n → (B 5 i).toInt + (B 6 i).toInt + (B 8 i).toInt + (B 10 i).toInt ≤ (B 1 i).toInt) ∧ (n ≤ i → B 5 i = 0 ∧ B 6 i = 0 ∧ B 8 i = 0 ∧ B 10 i = 0))
/-- the receipts; that ex is just bouncing -/
def RI (R : TBL) (q ex : Nat) : Prop :=
  R 8 0 = nI q ∧ q ≤ 30 ∧ (∀ j, R 7 j = 0 ∨ R 7 j = 1) ∧
  (∀ r, r < q → (R 5 r = 0 ∨ R 5 r = 1) ∧ -1 ≤ (R 0 r).toInt ∧ (R 0 r).toInt < 8 ∧ 0 ≤ (R 1 r).toInt ∧ (R 1 r).toInt ≤ 10000 ∧ 0 ≤ (R 2 r).toInt ∧ 0 ≤ (R 3 r).toInt ∧ 0 ≤ (R 4 r).toInt ∧
    (R 2 r).toInt + (R 3 r).toInt + (R 4 r).toInt ≤ (R 1 r).toInt ∧ (r ≠ ex → R 5 r = 0 → (R 1 r).toInt = (R 2 r).toInt + (R 3 r).toInt + (R 4 r).toInt) ∧ (R 5 r = 1 → R 2 r = 0 ∧ R 3 r = 0 ∧ R 4 r = 0)) ∧
  (∀ r, r < 30 → q ≤ r → R 2 r = 0 ∧ R 4 r = 0 ∧ R 5 r = 0)
/-- what a receipt has paid of a bill -/
def XI (B R : TBL) (n q : Nat) : Prop := ∀ r b, r < 30 → b < 40 → 0 ≤ (R 6 (40 * r + b)).toInt ∧ (R 7 (40 * r + b) = 0 → R 6 (40 * r + b) = 0) ∧ (¬ R 7 (40 * r + b) = 0 → r < q ∧ b < n ∧ R 0 r = B 0 b ∧ R 5 r = 0)
def SI (B R : TBL) : Prop := (∀ b, b < 40 → (B 5 b).toInt = sI (fun r => (R 6 (40 * r + b)).toInt) 30) ∧ ∀ r, r < 30 → (R 2 r).toInt = sI (fun b => (R 6 (40 * r + b)).toInt) 40
def Inx (ex : Nat) (B R : TBL) (n q : Nat) (mm ww : Nat → Int32) : Prop := BI B n q mm ww ∧ RI R q ex ∧ XI B R n q ∧ SI B R
abbrev Inv (B R : TBL) (n q : Nat) (mm ww : Nat → Int32) : Prop := Inx 99 B R n q mm ww
def HOk (B R : TBL) (td : Int32) (n q : Nat) (mm ww : Nat → Int32) : Prop :=
  (l_sum (R 1) q = l_sum (R 2) q + l_sum (R 3) q + l_sum (R 4) q + bsm R q) ∧
  (∀ k j, k < n → j < q → ¬ R 6 (40 * j + k) < 0 ∧ (R 6 (40 * j + k) = 0 ∨ (R 0 j = ww k ∧ R 5 j = 0))) ∧
  (∀ k, k < n → l_sum (fun j => R 6 (40 * j + k)) q = B 5 k) ∧
  (∀ k, k < n → ¬ opn B k < 0 ∧ ¬ B 6 k < 0 ∧ ¬ B 8 k < 0 ∧ ¬ B 10 k < 0 ∧ opn B k + B 5 k + B 6 k + B 8 k + B 10 k = mm k ∧ ¬ dueN B k td < 0 ∧ dueN B k td ≤ opn B k ∧ (opn B k = mm k ∨ dueN B k td = opn B k)) ∧
  (∀ j, j < q → ¬ R 3 j < 0 ∧ (R 5 j = 0 ∨ R 3 j = 0)) ∧
  (∀ cc, cc < 2 → oof B (nI cc) n = l_sum (fun k => if ww k = nI cc then opn B k else 0) n) ∧
  l_sum (B 5) n = l_sum (R 2) q
