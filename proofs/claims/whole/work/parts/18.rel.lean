/-! The relation of class and reference, as tables; what paying, disputing, settling, bouncing keep. -/
theorem fb_rng (x : Int32) : -2147483648 ≤ x.toInt ∧ x.toInt < 2147483648 := by
  have h1 := Int32.le_toInt x
  have h2 := Int32.toInt_lt x
  omega
theorem fb_bmod {z : Int} (h1 : -2147483648 ≤ z) (h2 : z < 2147483648) : z.bmod (2 ^ 32) = z := by
  rw [Int.bmod_eq_of_le (by omega) (by omega)]
theorem fb_addI {x y : Int32} (h1 : -2147483648 ≤ x.toInt + y.toInt) (h2 : x.toInt + y.toInt < 2147483648) : (x + y).toInt = x.toInt + y.toInt := by
  rw [Int32.toInt_add, fb_bmod h1 h2]
theorem fb_subI {x y : Int32} (h1 : -2147483648 ≤ x.toInt - y.toInt) (h2 : x.toInt - y.toInt < 2147483648) : (x - y).toInt = x.toInt - y.toInt := by
  rw [Int32.toInt_sub, fb_bmod h1 h2]
theorem i0 : (0 : Int32).toInt = 0 := by decide
theorem i1 : (1 : Int32).toInt = 1 := by decide
theorem im1 : (-1 : Int32).toInt = -1 := by decide
theorem eqI {x y : Int32} (h : x.toInt = y.toInt) : x = y := Int32.toInt_inj.mp h
theorem leI {x y : Int32} : x ≤ y ↔ x.toInt ≤ y.toInt := Int32.le_iff_toInt_le
theorem ltI {x y : Int32} : x < y ↔ x.toInt < y.toInt := Int32.lt_iff_toInt_lt
theorem pt_cm {F : Nat → Nat → Int32} {k i k' i' : Nat} {x y : Int32} (h : k ≠ k') : pt (pt F k i x) k' i' y = pt (pt F k' i' y) k i x := by
  funext a b
  by_cases e1 : a = k' ∧ b = i'
  · have e2 : ¬ (a = k ∧ b = i) := fun z => h (z.1.symm.trans e1.1)
    simp only [pt_at, if_pos e1, if_neg e2]
  · simp only [pt_at, if_neg e1]
def sI (f : Nat → Int) : Nat → Int
  | 0 => 0
  | k + 1 => sI f k + f k
theorem sI_c {f g : Nat → Int} : ∀ {n : Nat}, (∀ k, k < n → f k = g k) → sI f n = sI g n
  | 0, _ => rfl
  | n + 1, h => by rw [sI, sI, sI_c (fun k hk => h k (by omega)), h n (by omega)]
theorem sI_u {f g : Nat → Int} {i : Nat} : ∀ {n : Nat}, i < n → (∀ k, k < n → k ≠ i → g k = f k) → sI g n = sI f n - f i + g i
  | 0, h, _ => absurd h (Nat.not_lt_zero _)
  | n + 1, h, hg => by
    rw [sI, sI]
    rcases Nat.lt_or_ge i n with w | w
    · rw [sI_u w (fun k hk => hg k (by omega)), hg n (by omega) (by omega)]
      omega
    · have e : i = n := by omega
      subst e
      rw [sI_c (fun k hk => hg k (by omega) (by omega))]
      omega
theorem sI_0 {f : Nat → Int} : ∀ {n : Nat}, (∀ k, k < n → 0 ≤ f k) → 0 ≤ sI f n
  | 0, _ => Int.le_refl _
  | n + 1, h => by
    have h1 := sI_0 (n := n) (fun k hk => h k (by omega))
    have h2 := h n (by omega)
    rw [sI]
    omega
theorem sI_g {f : Nat → Int} {i : Nat} : ∀ {n : Nat}, (∀ k, k < n → 0 ≤ f k) → i < n → f i ≤ sI f n
  | 0, _, h => absurd h (Nat.not_lt_zero _)
  | n + 1, h, hi => by
    have h1 := sI_0 (n := n) (fun k hk => h k (by omega))
    have h2 := h n (by omega)
    rw [sI]
    rcases Nat.lt_or_ge i n with w | w
    · have := sI_g (n := n) (fun k hk => h k (by omega)) w
      omega
    · have e : i = n := by omega
      subst e
      omega
theorem ls_c {f g : Nat → Int32} : ∀ {n : Nat}, (∀ k, k < n → f k = g k) → l_sum f n = l_sum g n
  | 0, _ => rfl
  | n + 1, h => by rw [l_sum, l_sum, ls_c (fun k hk => h k (by omega)), h n (by omega)]
theorem ls_u {f g : Nat → Int32} {i : Nat} : ∀ {n : Nat}, i < n → (∀ k, k < n → k ≠ i → g k = f k) → l_sum g n = l_sum f n - f i + g i
  | 0, h, _ => absurd h (Nat.not_lt_zero _)
  | n + 1, h, hg => by
    rw [l_sum, l_sum]
    rcases Nat.lt_or_ge i n with w | w
    · rw [ls_u w (fun k hk => hg k (by omega)), hg n (by omega) (by omega)]
      grind
    · have e : i = n := by omega
      subst e
      rw [ls_c (fun k hk => hg k (by omega) (by omega))]
      grind
def dsc (M : Nat → Nat → Int32) (i : Nat) : Int32 := ((M 4 i).toInt64 * (M 7 i).toInt64 / 10000).toInt32
/-- counts, the day, what a bill is -/
def RC (tt : Nat) (B : Nat → Nat → Int32) (td : Int32) (M : Nat → Nat → Int32) (n : Nat) : Prop :=
  B 11 0 = nI n ∧ M 2 0 = nI n ∧ n ≤ 40 ∧ M 1 0 = td ∧ 0 ≤ td.toInt ∧ td.toInt ≤ 100 * tt ∧
  (∀ i, i < n → B 0 i = M 3 i ∧ B 1 i = M 4 i ∧ B 2 i = M 5 i ∧ B 3 i = dsc M i ∧ B 4 i = M 6 i + M 8 i ∧ 1 ≤ (B 1 i).toInt ∧ (B 1 i).toInt ≤ 1000000 ∧ 0 ≤ (B 3 i).toInt ∧ (B 3 i).toInt ≤ (B 1 i).toInt ∧ 0 ≤ (M 6 i).toInt ∧ (M 6 i).toInt ≤ td.toInt) ∧
  (∀ i j, i ≤ j → j < n → M 6 i ≤ M 6 j) ∧ (∀ i, i < n → ¬ M 3 i = -1)
/-- what is paid, taken, disputed, written off of a bill -/
def RD (B M : Nat → Nat → Int32) (n : Nat) : Prop := ∀ i, i < 40 →
  (B 5 i = M 9 i ∧ B 6 i = M 10 i ∧ B 8 i = M 12 i ∧ B 10 i = M 14 i ∧ B 9 i = M 13 i) ∧ (0 ≤ (B 5 i).toInt ∧ 0 ≤ (B 6 i).toInt ∧ 0 ≤ (B 8 i).toInt ∧ 0 ≤ (B 10 i).toInt) ∧
  (i < n → (B 5 i).toInt + (B 6 i).toInt + (B 8 i).toInt + (B 10 i).toInt ≤ (B 1 i).toInt) ∧ (n ≤ i → (B 5 i).toInt = 0 ∧ (B 6 i).toInt = 0 ∧ (B 8 i).toInt = 0 ∧ (B 10 i).toInt = 0) ∧
  (i < n → ((B 6 i).toInt = 0 ∧ M 11 i = -1) ∨ (0 < (B 6 i).toInt ∧ M 11 i = B 7 i))
/-- the receipts -/
def RR (R M : Nat → Nat → Int32) (q : Nat) : Prop := R 8 0 = nI q ∧ M 15 0 = nI q ∧ q ≤ 30 ∧ ∀ r, r < 30 →
  (R 0 r = M 17 r ∧ R 1 r = M 16 r ∧ R 3 r = M 18 r ∧ R 4 r = M 19 r ∧ R 5 r = M 20 r) ∧ 0 ≤ (R 3 r).toInt ∧ (R 5 r = 0 ∨ R 5 r = 1) ∧
  (R 5 r = 0 → R 1 r = R 2 r + R 3 r + R 4 r) ∧ (¬ R 5 r = 0 → R 2 r = 0 ∧ R 3 r = 0 ∧ R 4 r = 0) ∧ (q ≤ r → R 2 r = 0 ∧ R 4 r = 0 ∧ R 5 r = 0)
/-- what a receipt did to a bill -/
def RP (R M : Nat → Nat → Int32) (n q : Nat) : Prop := ∀ r b, r < 30 → b < 40 →
  R 6 (40 * r + b) = M 21 (40 * r + b) ∧ 0 ≤ (R 6 (40 * r + b)).toInt ∧ (R 7 (40 * r + b) = 0 → R 6 (40 * r + b) = 0) ∧ ((q ≤ r ∨ n ≤ b) → R 7 (40 * r + b) = 0 ∧ M 22 (40 * r + b) = 0) ∧
  (R 5 r = 0 → R 7 (40 * r + b) = M 22 (40 * r + b)) ∧ (¬ R 5 r = 0 → R 7 (40 * r + b) = 0) ∧ (b < n → M 11 b = nI r → R 7 (40 * r + b) = 1) ∧ (b < n → M 13 b = nI r → R 7 (40 * r + b) = 1)
/-- the sums -/
def RS (B R : Nat → Nat → Int32) : Prop := (∀ j, R 7 j = 0 ∨ R 7 j = 1) ∧ (∀ b, b < 40 → (B 5 b).toInt = sI (fun r => (R 6 (40 * r + b)).toInt) 30) ∧ (∀ r, r < 30 → R 2 r = l_sum (fun b => R 6 (40 * r + b)) 40)
def Rel (tt : Nat) (B R : Nat → Nat → Int32) (td : Int32) (M : Nat → Nat → Int32) (n q : Nat) : Prop := RC tt B td M n ∧ RD B M n ∧ RR R M q ∧ RP R M n q ∧ RS B R
section SIM
variable {tt n q : Nat} {B R M : Nat → Nat → Int32} {td : Int32}
theorem opn_I {i : Nat} (hc : RC tt B td M n) (hd : RD B M n) (hi : i < n) : (opn B i).toInt = (B 1 i).toInt - (B 5 i).toInt - (B 6 i).toInt - (B 8 i).toInt - (B 10 i).toInt ∧ opn B i = mopn M i ∧ 0 ≤ (opn B i).toInt ∧ (opn B i).toInt ≤ (B 1 i).toInt := by
  obtain ⟨-, -, hn, -, -, -, hb, -⟩ := hc
  obtain ⟨b0, b1, b2, b3, b4, b5, b6, b7, b8, b9, b10⟩ := hb i hi
  obtain ⟨⟨d1, d2, d3, d4, d5⟩, ⟨d6, d7, d8, d9⟩, d10, -, -⟩ := hd i (by omega)
  have d10 := d10 hi
  have e : (opn B i).toInt = (B 1 i).toInt - (B 5 i).toInt - (B 6 i).toInt - (B 8 i).toInt - (B 10 i).toInt := by
    unfold opn
    have s1 : (B 1 i - B 5 i).toInt = (B 1 i).toInt - (B 5 i).toInt := fb_subI (by omega) (by omega)
    have s2 : (B 1 i - B 5 i - B 6 i).toInt = (B 1 i).toInt - (B 5 i).toInt - (B 6 i).toInt := by rw [fb_subI (by omega) (by omega), s1]
    have s3 : (B 1 i - B 5 i - B 6 i - B 8 i).toInt = (B 1 i).toInt - (B 5 i).toInt - (B 6 i).toInt - (B 8 i).toInt := by rw [fb_subI (by omega) (by omega), s2]
    rw [fb_subI (by omega) (by omega), s3]
  refine ⟨e, ?_, by omega, by omega⟩
  unfold opn mopn
  rw [b1, d1, d2, d3, d4]
/-- what is due is the same, and not below 0 -/
theorem due_I {i : Nat} (hc : RC tt B td M n) (hd : RD B M n) (hi : i < n) : dueN B i td = mdue M i ∧ 0 ≤ (dueN B i td).toInt ∧ (dueN B i td).toInt ≤ (opn B i).toInt ∧
    ((opn B i = B 1 i ∧ ¬ B 4 i < td) → mdis M i = B 3 i ∧ (dueN B i td).toInt = (opn B i).toInt - (B 3 i).toInt) ∧ (¬ (opn B i = B 1 i ∧ ¬ B 4 i < td) → mdis M i = 0 ∧ dueN B i td = opn B i) := by
  obtain ⟨o1, o2, o3, o4⟩ := opn_I hc hd hi
  obtain ⟨-, -, hn, hday, -, -, hb, -⟩ := hc
  obtain ⟨b0, b1, b2, b3, b4, b5, b6, b7, b8, b9, b10⟩ := hb i hi
  have hw : (mopn M i = M 4 i ∧ ¬ (M 6 i + M 8 i) < M 1 0) ↔ (opn B i = B 1 i ∧ ¬ B 4 i < td) := by rw [← o2, ← b1, ← b4, hday]
  by_cases z : opn B i = B 1 i ∧ ¬ B 4 i < td
  · have e1 : dueN B i td = opn B i - B 3 i := if_pos z
    have e2 : mdis M i = B 3 i := (if_pos (hw.mpr z)).trans b3.symm
    have e3 : (opn B i - B 3 i).toInt = (opn B i).toInt - (B 3 i).toInt := fb_subI (by omega) (by omega)
    have e4 : (opn B i).toInt = (B 1 i).toInt := congrArg Int32.toInt z.1
    refine ⟨by rw [e1]; unfold mdue; rw [e2, ← o2], by rw [e1, e3]; omega, by rw [e1, e3]; omega, fun _ => ⟨e2, by rw [e1, e3]⟩, fun w => absurd z w⟩
  · have e1 : dueN B i td = opn B i := if_neg z
    have e2 : mdis M i = 0 := if_neg (fun w => z (hw.mp w))
    refine ⟨by rw [e1]; unfold mdue; rw [e2, ← o2, Int32.sub_zero], by rw [e1]; omega, by rw [e1]; omega, fun w => absurd w z, fun _ => ⟨e2, e1⟩⟩
/-- a sum sm of a receipt is put to a bill -/
theorem sim_P {rc b : Nat} {sm : Int32} (h : Rel tt B R td M n q) (hrc : rc < q) (hb : b < n) (h5 : R 5 rc = 0) (s0 : 0 ≤ sm.toInt) (s1 : sm.toInt ≤ (R 3 rc).toInt) (s2 : sm.toInt ≤ (opn B b).toInt) :
    Rel tt (pt B 5 b (B 5 b + sm)) (addP R rc b sm) td (mpy2 M rc b sm) n q ∧ addP R rc b sm 7 (40 * rc + b) = 1 := by
  obtain ⟨hc, hd, hr, hp, hs⟩ := h
  obtain ⟨o1, o2, o3, o4⟩ := opn_I hc hd hb
  have hn : n ≤ 40 := hc.2.2.1
  have hq : q ≤ 30 := hr.2.2.1
  have hbd := hc.2.2.2.2.2.2.1 b hb
  obtain ⟨⟨d1, d2, d3, d4, d5⟩, ⟨d6, d7, d8, d9⟩, d10, d11, d12⟩ := hd b (by omega)
  have d10 := d10 hb
  have hj : 40 * rc + b < 1200 := by omega
  obtain ⟨p1, p2, p3, p4, p5, p6, p7, p8⟩ := hp rc b (by omega) (by omega)
  have hcol := hs.2.1 b (by omega)
  have hge : (R 6 (40 * rc + b)).toInt ≤ (B 5 b).toInt := by
    rw [hcol]
    exact sI_g (f := fun r => (R 6 (40 * r + b)).toInt) (fun k hk => (hp k b hk (by omega)).2.1) (by omega)
  have e5 : (B 5 b + sm).toInt = (B 5 b).toInt + sm.toInt := fb_addI (by omega) (by omega)
  have e6 : (R 6 (40 * rc + b) + sm).toInt = (R 6 (40 * rc + b)).toInt + sm.toInt := fb_addI (by omega) (by omega)
  have e3 : (R 3 rc - sm).toInt = (R 3 rc).toInt - sm.toInt := by
    have := fb_rng (R 3 rc)
    have := (hr.2.2.2 rc (by omega)).2.1
    exact fb_subI (by omega) (by omega)
  have r3 : ∀ r, addP R rc b sm 3 r = if r = rc then R 3 rc - sm else R 3 r := fun r => by simp [addP, pt_at]
  have r2 : ∀ r, addP R rc b sm 2 r = if r = rc then R 2 rc + sm else R 2 r := fun r => by simp [addP, pt_at]
  have r6 : ∀ j, addP R rc b sm 6 j = if j = 40 * rc + b then R 6 (40 * rc + b) + sm else R 6 j := fun j => by simp [addP, pt_at]
  have r7 : ∀ j, addP R rc b sm 7 j = if j = 40 * rc + b then 1 else R 7 j := fun j => by simp [addP, pt_at]
  have m18 : ∀ r, mpy2 M rc b sm 18 r = if r = rc then M 18 rc - sm else M 18 r := fun r => by simp [mpy2, pt_at]
  have m9 : ∀ r, mpy2 M rc b sm 9 r = if r = b then M 9 b + sm else M 9 r := fun r => by simp [mpy2, pt_at]
  have m21 : ∀ j, mpy2 M rc b sm 21 j = if j = 40 * rc + b then M 21 (40 * rc + b) + sm else M 21 j := fun j => by simp [mpy2, pt_at]
  have m22 : ∀ j, mpy2 M rc b sm 22 j = if j = 40 * rc + b then 1 else M 22 j := fun j => by simp [mpy2, pt_at]
  have b5 : ∀ i, pt B 5 b (B 5 b + sm) 5 i = if i = b then B 5 b + sm else B 5 i := fun i => by simp [pt_at]
  refine ⟨⟨hc, ?_, ?_, ?_, ?_⟩, by rw [r7, if_pos rfl]⟩
  · intro i hi
    obtain ⟨⟨c1, c2, c3, c4, c5⟩, ⟨c6, c7, c8, c9⟩, c10, c11, c12⟩ := hd i hi
    rw [b5, m9]
    by_cases z : i = b
    · subst z
      rw [if_pos rfl, if_pos rfl, e5]
      exact ⟨⟨by rw [d1], c2, c3, c4, c5⟩, ⟨by omega, c7, c8, c9⟩, fun _ => by show _ + (B 6 i).toInt + (B 8 i).toInt + (B 10 i).toInt ≤ (B 1 i).toInt; omega, fun g => by omega, c12⟩
    · rw [if_neg z, if_neg z]
      exact ⟨⟨c1, c2, c3, c4, c5⟩, ⟨c6, c7, c8, c9⟩, c10, c11, c12⟩
  · refine ⟨hr.1, hr.2.1, hq, fun r hr3 => ?_⟩
    obtain ⟨⟨c1, c2, c3, c4, c5⟩, c6, c7, c8, c9, c10⟩ := hr.2.2.2 r hr3
    rw [r3, r2, m18]
    by_cases z : r = rc
    · subst z
      rw [if_pos rfl, if_pos rfl, if_pos rfl, e3]
      refine ⟨⟨c1, c2, by rw [c3], c4, c5⟩, by omega, c7, fun g => ?_, fun g => absurd h5 g, fun g => by omega⟩
      have g1 := c8 g
      show R 1 r = R 2 r + sm + (R 3 r - sm) + R 4 r
      rw [g1]
      grind
    · rw [if_neg z, if_neg z, if_neg z]
      exact ⟨⟨c1, c2, c3, c4, c5⟩, c6, c7, c8, c9, c10⟩
  · intro r i hr3 hi
    obtain ⟨g1, g2, g3, g4, g5, g6, g7, g8⟩ := hp r i hr3 hi
    rw [r6, r7, m21, m22]
    by_cases z : 40 * r + i = 40 * rc + b
    · have zr : r = rc := by omega
      have zi : i = b := by omega
      subst zr; subst zi
      rw [if_pos rfl, if_pos rfl, if_pos rfl, if_pos rfl, e6]
      exact ⟨by rw [g1], by omega, fun w => absurd w (by decide), fun w => by omega, fun _ => rfl, fun w => absurd h5 w, fun _ _ => rfl, fun _ _ => rfl⟩
    · rw [if_neg z, if_neg z, if_neg z, if_neg z]
      exact ⟨g1, g2, g3, g4, g5, g6, g7, g8⟩
  · refine ⟨fun j => ?_, fun i hi => ?_, fun r hr3 => ?_⟩
    · rw [r7]
      by_cases z : j = 40 * rc + b
      · rw [if_pos z]; exact Or.inr rfl
      · rw [if_neg z]; exact hs.1 j
    · rw [b5]
      by_cases z : i = b
      · subst z
        rw [if_pos rfl, e5]
        rw [sI_u (f := fun r => (R 6 (40 * r + i)).toInt) (i := rc) (by omega) (fun k hk hne => by rw [r6, if_neg (by omega)])]
        rw [r6, if_pos rfl, e6, ← hcol]
        omega
      · rw [if_neg z, hs.2.1 i hi]
        exact sI_c (fun k hk => by rw [r6, if_neg (by omega)])
    · rw [r2]
      by_cases z : r = rc
      · subst z
        rw [if_pos rfl, ls_u (f := fun b => R 6 (40 * r + b)) (i := b) (by omega) (fun k hk hne => by rw [r6, if_neg (by omega)]), r6, if_pos rfl, ← hs.2.2 r hr3]
        grind
      · rw [if_neg z, hs.2.2 r hr3]
        exact ls_c (fun k hk => by rw [r6, if_neg (by omega)])
/-- the discount is taken: nothing of it, or some -/
theorem sim_T0 {b : Nat} {x : Int32} (h : Rel tt B R td M n q) (hb : b < n) (h0 : (B 6 b).toInt = 0) : Rel tt (pt (pt B 6 b 0) 7 b x) R td M n q := by
  obtain ⟨hc, hd, hr, hp, hs⟩ := h
  refine ⟨hc, fun i hi => ?_, hr, hp, hs⟩
  obtain ⟨⟨c1, c2, c3, c4, c5⟩, ⟨c6, c7, c8, c9⟩, c10, c11, c12⟩ := hd i hi
  have b6 : pt (pt B 6 b 0) 7 b x 6 i = if i = b then 0 else B 6 i := by simp [pt_at]
  have b7 : pt (pt B 6 b 0) 7 b x 7 i = if i = b then x else B 7 i := by simp [pt_at]
  rw [b6, b7]
  by_cases z : i = b
  · subst z
    have e0 : B 6 i = 0 := eqI (by rw [h0, i0])
    rw [if_pos rfl, if_pos rfl]
    rw [e0] at c2 c7 c10 c11
    refine ⟨⟨c1, c2, c3, c4, c5⟩, ⟨c6, c7, c8, c9⟩, c10, c11, fun g => Or.inl ⟨i0, ?_⟩⟩
    rcases c12 g with w | w
    · exact w.2
    · omega
  · rw [if_neg z, if_neg z]
    exact ⟨⟨c1, c2, c3, c4, c5⟩, ⟨c6, c7, c8, c9⟩, c10, c11, c12⟩
theorem sim_T {b rc : Nat} {di : Int32} (h : Rel tt B R td M n q) (hb : b < n) (hrc : rc < 30) (h0 : (B 6 b).toInt = 0) (h1 : 0 < di.toInt) (h2 : di.toInt ≤ (opn B b).toInt) (h7 : R 7 (40 * rc + b) = 1) : Rel tt (pt (pt B 6 b di) 7 b (nI rc)) R td (pt (pt M 10 b di) 11 b (nI rc)) n q := by
  obtain ⟨hc, hd, hr, hp, hs⟩ := h
  obtain ⟨o1, o2, o3, o4⟩ := opn_I hc hd hb
  have b6 : ∀ i, pt (pt B 6 b di) 7 b (nI rc) 6 i = if i = b then di else B 6 i := fun i => by simp [pt_at]
  have b7 : ∀ i, pt (pt B 6 b di) 7 b (nI rc) 7 i = if i = b then nI rc else B 7 i := fun i => by simp [pt_at]
  have m10 : ∀ i, pt (pt M 10 b di) 11 b (nI rc) 10 i = if i = b then di else M 10 i := fun i => by simp [pt_at]
  have m11 : ∀ i, pt (pt M 10 b di) 11 b (nI rc) 11 i = if i = b then nI rc else M 11 i := fun i => by simp [pt_at]
  refine ⟨hc, fun i hi => ?_, hr, fun r i hr3 hi => ?_, hs⟩
  · obtain ⟨⟨c1, c2, c3, c4, c5⟩, ⟨c6, c7, c8, c9⟩, c10, c11, c12⟩ := hd i hi
    rw [b6, b7, m10, m11]
    by_cases z : i = b
    · subst z
      have c10 := c10 hb
      rw [if_pos rfl, if_pos rfl, if_pos rfl, if_pos rfl]
      exact ⟨⟨c1, rfl, c3, c4, c5⟩, ⟨c6, by omega, c8, c9⟩, fun _ => by show (B 5 i).toInt + di.toInt + (B 8 i).toInt + (B 10 i).toInt ≤ (B 1 i).toInt; omega, fun g => by omega, fun _ => Or.inr ⟨h1, rfl⟩⟩
    · simp only [if_neg z]
      exact ⟨⟨c1, c2, c3, c4, c5⟩, ⟨c6, c7, c8, c9⟩, c10, c11, c12⟩
  · obtain ⟨g1, g2, g3, g4, g5, g6, g7, g8⟩ := hp r i hr3 hi
    refine ⟨g1, g2, g3, g4, g5, g6, fun w1 w2 => ?_, g8⟩
    rw [m11] at w2
    by_cases z : i = b
    · subst z
      rw [if_pos rfl, nI_eq (by omega) (by omega)] at w2
      rw [← w2]
      exact h7
    · rw [if_neg z] at w2
      exact g7 w1 w2
/-- what stands becomes disputed -/
theorem sim_D {b rc : Nat} (h : Rel tt B R td M n q) (hb : b < n) (hrc : rc < 30) (h7 : R 7 (40 * rc + b) = 1) : Rel tt (dsp B b (nI rc)) R td (mdsp M rc b) n q := by
  obtain ⟨hc, hd, hr, hp, hs⟩ := h
  obtain ⟨o1, o2, o3, o4⟩ := opn_I hc hd hb
  have hbd := hc.2.2.2.2.2.2.1 b hb
  have b8 : ∀ i, dsp B b (nI rc) 8 i = if i = b then B 8 b + opn B b else B 8 i := fun i => by simp [dsp, pt_at]
  have b9 : ∀ i, dsp B b (nI rc) 9 i = if i = b then nI rc else B 9 i := fun i => by simp [dsp, pt_at]
  have m12 : ∀ i, mdsp M rc b 12 i = if i = b then M 12 b + mopn M b else M 12 i := fun i => by simp [mdsp, pt_at]
  have m13 : ∀ i, mdsp M rc b 13 i = if i = b then nI rc else M 13 i := fun i => by simp [mdsp, pt_at]
  refine ⟨hc, fun i hi => ?_, hr, fun r i hr3 hi => ?_, hs⟩
  · obtain ⟨⟨c1, c2, c3, c4, c5⟩, ⟨c6, c7, c8, c9⟩, c10, c11, c12⟩ := hd i hi
    rw [b8, b9, m12, m13]
    by_cases z : i = b
    · subst z
      have c10 := c10 hb
      have e8 : (B 8 i + opn B i).toInt = (B 8 i).toInt + (opn B i).toInt := fb_addI (by omega) (by omega)
      rw [if_pos rfl, if_pos rfl, if_pos rfl, if_pos rfl]
      rw [e8]
      exact ⟨⟨c1, c2, by rw [c3, o2], c4, rfl⟩, ⟨c6, c7, by omega, c9⟩, fun _ => by show (B 5 i).toInt + (B 6 i).toInt + _ + (B 10 i).toInt ≤ (B 1 i).toInt; omega, fun g => by omega, c12⟩
    · simp only [if_neg z]
      exact ⟨⟨c1, c2, c3, c4, c5⟩, ⟨c6, c7, c8, c9⟩, c10, c11, c12⟩
  · obtain ⟨g1, g2, g3, g4, g5, g6, g7, g8⟩ := hp r i hr3 hi
    refine ⟨g1, g2, g3, g4, g5, g6, g7, fun w1 w2 => ?_⟩
    rw [m13] at w2
    by_cases z : i = b
    · subst z
      rw [if_pos rfl, nI_eq (by omega) (by omega)] at w2
      rw [← w2]
      exact h7
    · rw [if_neg z] at w2
      exact g8 w1 w2
end SIM
