/-! What a receipt that comes and goes leaves, and what the law's walk asks of it. -/
def fil (f : Nat → Int32) (k : Nat) : Nat → Int32 := fun i => if i < k then f i else 0
theorem fil_0 {f : Nat → Int32} : (fun _ => 0 : Nat → Int32) = fil f 0 := funext fun i => (if_neg (Nat.not_lt_zero i)).symm
theorem fil_up {f : Nat → Int32} {k : Nat} : upd (fil f k) k (f k) = fil f (k + 1) := by
  funext i
  unfold upd fil
  by_cases h : i = k
  · subst h
    simp
  · by_cases h2 : i < k
    · rw [if_neg h, if_pos h2, if_pos (by omega)]
    · rw [if_neg h, if_neg h2, if_neg (by omega)]
theorem fil_lt {f : Nat → Int32} {k i : Nat} (h : i < k) : fil f k i = f i := if_pos h
def kpF (B : TBL) (i : Nat) : Int32 := opn B i + nI 2 * B 5 i + nI 3 * B 6 i
def cgAm (x : Nat) : Nat := 1 + x / 3 % (if x % 2 = 0 then 30 else 9000)
def cgS (B R E : TBL) (td : Int32) (n q x : Nat) : TBL × TBL × TBL := rcvS B R E q (nI (x % 3) - nI 1) (nI (cgAm x)) (nI (x / 7 % 4)) n td
/-- what holds behind the coming, before the going -/
def CGok (B B1 R1 E1 : TBL) (td : Int32) (n q x : Nat) : Prop :=
  B1 11 0 = nI n ∧ R1 8 0 = nI (q + 1) ∧ R1 5 q = 0 ∧ R1 4 q ≤ 0 ∧ (∀ j, R1 7 j = 0 ∨ R1 7 j = 1) ∧
  ¬ R1 3 q < 0 ∧ nI (cgAm x) - R1 3 q ≤ l_sum (opn B) n ∧ (nI (x % 3) - nI 1 < 0 ∨ R1 0 q = nI (x % 3) - nI 1) ∧ (¬ R1 0 q < 0 ∨ R1 3 q = nI (cgAm x)) ∧ (R1 0 q = -1 ∨ (¬ R1 0 q < 0 ∧ R1 0 q < 8)) ∧
  (¬ R1 0 q < 0 → ¬ R1 3 q = 0 → oof B1 (R1 0 q) n = 0 ∧ (othS B1 R1 E1 q n td).1 = B1 ∧ (othS B1 R1 E1 q n td).2.1 = R1) ∧
  (R1 3 q < nI (cgAm x) → ¬ nI (bncL q n 0 0 B1 R1).1 < nI 1) ∧ ¬ nI (bncL q n 0 0 B1 R1).1 < nI 0 ∧ (bncL q n 0 0 B1 R1).2.1 11 0 = nI n ∧
  ∀ k, k < n → (bncL q n 0 0 B1 R1).2.1 8 k ≤ l_sum (B1 8) n ∧ (kpF B k = kpF (bncL q n 0 0 B1 R1).2.1 k ∨ ((bncL q n 0 0 B1 R1).2.1 8 k = 0 ∧ ¬ (bncL q n 0 0 B1 R1).2.1 5 k < 0))
/-- how the desk stands behind -/
def CGend (B R E : TBL) (td : Int32) (n q x : Nat) (u : TBL × TBL × TBL) : Prop :=
  (q = 30 ∧ u = (B, R, E)) ∨ (q < 30 ∧ u.1 = (bncL q n 0 0 (cgS B R E td n q x).1 (cgS B R E td n q x).2.1).2.1 ∧ u.2.1 = mkB (bncL q n 0 0 (cgS B R E td n q x).1 (cgS B R E td n q x).2.1).2.2 q)
theorem cgAm_r (x : Nat) : 1 ≤ cgAm x ∧ cgAm x ≤ 9000 := by
  unfold cgAm
  split
  · have := Nat.mod_lt (x / 3) (show 0 < 30 by decide)
    omega
  · have := Nat.mod_lt (x / 3) (show 0 < 9000 by decide)
    omega
theorem cgCu : ∀ k, k < 3 → nI k - nI 1 = -1 ∨ (¬ nI k - nI 1 < 0 ∧ nI k - nI 1 < 8) := by decide +kernel
