/-! What one act of the law does, as a function of what the desk holds. -/
abbrev TBL := Nat → Nat → Int32
abbrev STT := TBL × TBL × TBL × Int32
def aAm (y k mm : Nat) : Nat := 1 + y / 2 % (if y % 3 = 0 then k else mm)
def aRt (y : Nat) : Nat := if y % 5 = 0 then 10000 else y / 11 % 500
def actB (B R E : TBL) (td : Int32) (n y : Nat) : Int32 × STT :=
  if n < 40 then (nI n, addB B n (nI (y % 2)) (nI (aAm y 9 5000)) (nI (1 + y / 7 % 3)) (dcO (nI (aAm y 9 5000)) (nI (aRt y))) (td + nI (y / 13 % 5)), R, E, td) else (-2000000003, B, R, E, td)
def actR (B R E : TBL) (td : Int32) (n q y : Nat) (cu : Int32) : Int32 × STT :=
  if q < 30 then (nI q, (rcvS B R E q cu (nI (aAm y 20 6000)) (nI (y / 7 % 4)) n td).1, (rcvS B R E q cu (nI (aAm y 20 6000)) (nI (y / 7 % 4)) n td).2.1, (rcvS B R E q cu (nI (aAm y 20 6000)) (nI (y / 7 % 4)) n td).2.2, td) else (-2000000003, B, R, E, td)
def actA (B R E : TBL) (td : Int32) (n q y : Nat) : Int32 × STT :=
  if q = 0 then (-2000000001, B, R, E, td)
  else if R 5 (y % q) = 0 ∧ R 0 (y % q) = -1 then ((othS B (pt R 0 (y % q) (nI (y / 30 % 2))) E (y % q) n td).2.1 3 (y % q), (othS B (pt R 0 (y % q) (nI (y / 30 % 2))) E (y % q) n td).1, (othS B (pt R 0 (y % q) (nI (y / 30 % 2))) E (y % q) n td).2.1, (othS B (pt R 0 (y % q) (nI (y / 30 % 2))) E (y % q) n td).2.2, td)
  else (-2000000003, B, R, E, td)
def actP (B R E : TBL) (td : Int32) (n q y : Nat) : Int32 × STT :=
  if q = 0 then (-2000000001, B, R, E, td)
  else if R 5 (y % q) = 0 ∧ ¬ R 0 (y % q) = -1 then ((othS B R E (y % q) n td).2.1 3 (y % q), (othS B R E (y % q) n td).1, (othS B R E (y % q) n td).2.1, (othS B R E (y % q) n td).2.2, td)
  else (-2000000003, B, R, E, td)
def actK (B R E : TBL) (td : Int32) (q y : Nat) : Int32 × STT :=
  if q = 0 then (-2000000001, B, R, E, td)
  else if R 5 (y % q) = 0 ∧ ¬ R 3 (y % q) = 0 then (R 3 (y % q), B, pbR R (y % q), E, td)
  else (-2000000003, B, R, E, td)
def actC (B R E : TBL) (td : Int32) (n q y : Nat) : Int32 × STT :=
  if q = 0 then (-2000000001, B, R, E, td)
  else if R 5 (y % q) = 0 ∧ R 4 (y % q) ≤ 0 then (nI (bncL (y % q) n 0 0 B R).1, (bncL (y % q) n 0 0 B R).2.1, mkB (bncL (y % q) n 0 0 B R).2.2 (y % q), E, td)
  else (-2000000003, B, R, E, td)
/-- the bill that is settled: from one on, the first with a dispute -/
def fbl (B : TBL) (n : Nat) : Nat → Nat → Nat
  | 0, b => b
  | k + 1, b => if B 8 b = 0 then fbl B n k ((b + 1) % n) else b
def actS (B R E : TBL) (td : Int32) (n y : Nat) : Int32 × STT :=
  if n = 0 then (-2000000001, B, R, E, td)
  else if B 8 (fbl B n n (y % n)) = 0 then (-2000000003, B, R, E, td)
  else (B 8 (fbl B n n (y % n)), edD B (fbl B n n (y % n)) (nI (if y % 2 = 0 then 1 else 0)), R, E, td)
def actV (B R E : TBL) (td : Int32) (y : Nat) : Int32 × STT := (td + nI (1 + y % 3), B, R, E, td + nI (1 + y % 3))
def actG (B R E : TBL) (td : Int32) (n q k y : Nat) : Int32 × STT :=
  if k < 5 then actB B R E td n y else if k < 8 then actR B R E td n q y (nI (y % 2)) else if k = 8 then actR B R E td n q y (-1) else if k = 9 then actA B R E td n q y else if k = 10 then actP B R E td n q y
  else if k = 11 then actK B R E td q y else if k = 12 then actC B R E td n q y else if k < 15 then actS B R E td n y else actV B R E td y
def actF (B R E : TBL) (td : Int32) (n q x : Nat) : Int32 × STT := actG B R E td n q (x % 16) (x / 16)
theorem fbl_lt {B : TBL} {n : Nat} (hn : 0 < n) : ∀ {k b : Nat}, b < n → fbl B n k b < n
  | 0, b, h => h
  | k + 1, b, h => by
    rw [fbl]
    split
    · exact fbl_lt hn (Nat.mod_lt _ hn)
    · exact h
theorem fbl_y {B : TBL} {n k b : Nat} (h : ¬ B 8 b = 0) : fbl B n k b = b := by
  cases k with
  | zero => rfl
  | succ k => rw [fbl, if_neg h]
theorem aAm_r {y k mm : Nat} (hk : k ≤ 6000) (hm : mm ≤ 6000) (hk0 : 0 < k) (hm0 : 0 < mm) : 1 ≤ aAm y k mm ∧ aAm y k mm ≤ 6000 := by
  unfold aAm
  split
  · have := Nat.mod_lt (y / 2) hk0
    omega
  · have := Nat.mod_lt (y / 2) hm0
    omega
theorem bk3g {n : Nat} {cu am rf rt dy : Int32} (hn : ¬ n < 40) (h1 : ¬ cu < 0) (h2 : cu < 8) (h3 : ¬ am < 1) (h4 : am ≤ 1000000) (h5 : ¬ rf < 1) (h6 : rf ≤ 9999) (h7 : ¬ rt < 0) (h8 : rt ≤ 10000) (h9 : ¬ dy < 0) (h10 : dy ≤ 90) : billK n cu am rf rt dy = 3 := by
  unfold billK
  rw [if_neg (fun z => z.elim h1 (fun w => w h2)), if_neg (fun z => z.elim (fun y => y.elim h3 (fun w => w h4)) (fun z => z.elim (fun y => y.elim h5 (fun w => w h6)) (fun z => z.elim (fun y => y.elim h7 (fun w => w h8)) (fun y => y.elim h9 (fun w => w h10))))), if_neg hn]
theorem rk3g {q : Nat} {cu am rf : Int32} (hq : ¬ q < 30) (h0 : cu = -1 ∨ (¬ cu < 0 ∧ cu < 8)) (h3 : ¬ am < 1) (h4 : am ≤ 1000000) (h5 : ¬ rf < 0) (h6 : rf ≤ 9999) : rcvK q cu am rf = 3 := by
  unfold rcvK
  rw [if_neg (fun z => h0.elim z.1 (fun y => z.2.elim y.1 (fun w => w y.2))), if_neg (fun z => z.elim (fun y => y.elim h3 (fun w => w h4)) (fun y => y.elim h5 (fun w => w h6))), if_neg hq]
