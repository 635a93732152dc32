/-! Sums, and one payment. -/
theorem sI_c {f g : Nat → Int} : ∀ {n : Nat}, (∀ k, k < n → f k = g k) → sI f n = sI g n
  | 0, _ => rfl
  | n + 1, h => by rw [sI, sI, sI_c (fun k hk => h k (by omega)), h n (by omega)]
theorem sI_u {f g : Nat → Int} {i : Nat} : ∀ {n : Nat}, i < n → (∀ k, k < n → k ≠ i → g k = f k) → sI g n = sI f n - f i + g i
  | 0, h, _ => absurd h (Nat.not_lt_zero _)
  | n + 1, h, hg => by
    rw [sI, sI]
    rcases Nat.lt_or_ge i n with w | w
    · rw [sI_u w (fun k hk => hg k (by omega)), hg n (by omega) (by omega)]
      omega
    · have e : i = n := by omega
      subst e
      rw [sI_c (fun k hk => hg k (by omega) (by omega))]
      omega
theorem sI_0 {f : Nat → Int} : ∀ {n : Nat}, (∀ k, k < n → 0 ≤ f k) → 0 ≤ sI f n
  | 0, _ => Int.le_refl _
  | n + 1, h => by
    have h1 := sI_0 (n := n) (fun k hk => h k (by omega))
    have h2 := h n (by omega)
    rw [sI]
    omega
theorem sI_g {f : Nat → Int} {i : Nat} : ∀ {n : Nat}, (∀ k, k < n → 0 ≤ f k) → i < n → f i ≤ sI f n
  | 0, _, h => absurd h (Nat.not_lt_zero _)
  | n + 1, h, hi => by
    have h1 := sI_0 (n := n) (fun k hk => h k (by omega))
    have h2 := h n (by omega)
    rw [sI]
    rcases Nat.lt_or_ge i n with w | w
    · have := sI_g (n := n) (fun k hk => h k (by omega)) w
      omega
    · have e : i = n := by omega
      subst e
      omega
theorem sI_z {f : Nat → Int} : ∀ {n : Nat}, (∀ k, k < n → f k = 0) → sI f n = 0
  | 0, _ => rfl
  | n + 1, h => by
    rw [sI, sI_z (fun k hk => h k (by omega)), h n (by omega)]
    rfl
theorem sI_le {f g : Nat → Int} : ∀ {n : Nat}, (∀ k, k < n → f k ≤ g k) → sI f n ≤ sI g n
  | 0, _ => Int.le_refl _
  | n + 1, h => by
    have h1 := sI_le (n := n) (f := f) (g := g) (fun k hk => h k (by omega))
    have h2 := h n (by omega)
    rw [sI, sI]
    omega
theorem sI_b {f : Nat → Int} {c : Int} : ∀ {n : Nat}, (∀ k, k < n → f k ≤ c) → sI f n ≤ n * c
  | 0, _ => by simp [sI]
  | n + 1, h => by
    have h1 := sI_b (n := n) (f := f) (c := c) (fun k hk => h k (by omega))
    have h2 := h n (by omega)
    rw [sI]
    have h3 : ((n + 1 : Nat) : Int) * c = n * c + c := by
      rw [Int.natCast_add, Int.add_mul]
      simp
    omega
theorem sI_t {f : Nat → Int} {m : Nat} : ∀ {n : Nat}, m ≤ n → (∀ k, m ≤ k → k < n → f k = 0) → sI f n = sI f m
  | 0, h, _ => by
    have : m = 0 := by omega
    subst this
    rfl
  | n + 1, h, hz => by
    by_cases e : m = n + 1
    · subst e
      rfl
    · rw [sI, sI_t (n := n) (by omega) (fun k h1 h2 => hz k h1 (by omega)), hz n (by omega) (by omega)]
      omega
theorem sI_a {f g : Nat → Int} : ∀ {n : Nat}, sI (fun k => f k + g k) n = sI f n + sI g n
  | 0 => rfl
  | n + 1 => by
    rw [sI, sI, sI, sI_a]
    omega
theorem sI_s {f : Nat → Nat → Int} : ∀ {n q : Nat}, sI (fun k => sI (fun r => f r k) q) n = sI (fun r => sI (fun k => f r k) n) q
  | 0, q => by
    rw [sI]
    exact (sI_z (fun _ _ => rfl)).symm
  | n + 1, q => by
    rw [sI, sI_s (n := n)]
    exact sI_a.symm
theorem ls_I {f : Nat → Int32} : ∀ {n : Nat}, (∀ k, k < n → 0 ≤ (f k).toInt) → sI (fun k => (f k).toInt) n < 2147483648 → (l_sum f n).toInt = sI (fun k => (f k).toInt) n
  | 0, _, _ => i0
  | n + 1, h, hb => by
    have h0 := sI_0 (n := n) (f := fun k => (f k).toInt) (fun k hk => h k (by omega))
    have h2 := h n (by omega)
    rw [sI] at hb
    have h1 := ls_I (n := n) (f := f) (fun k hk => h k (by omega)) (by omega)
    rw [l_sum, sI, fb_addI (by omega) (by omega), h1]
theorem ls_c {f g : Nat → Int32} : ∀ {n : Nat}, (∀ k, k < n → f k = g k) → l_sum f n = l_sum g n
  | 0, _ => rfl
  | n + 1, h => by rw [l_sum, l_sum, ls_c (fun k hk => h k (by omega)), h n (by omega)]
/-- what is open, as an integer -/
def oI2 (B : TBL) (i : Nat) : Int := (B 1 i).toInt - (B 5 i).toInt - (B 6 i).toInt - (B 8 i).toInt - (B 10 i).toInt
theorem opn_I {B : TBL} {n q i : Nat} {mm ww : Nat → Int32} (h : BI B n q mm ww) (hi : i < n) : (opn B i).toInt = oI2 B i ∧ 0 ≤ oI2 B i ∧ oI2 B i ≤ (B 1 i).toInt ∧ (B 1 i).toInt ≤ 10000 := by
  obtain ⟨b1, b2, b3, b4⟩ := h
  obtain ⟨c1, c2, c3, c4, c5, -⟩ := b4 i (by omega)
  have c5 := c5 hi
  obtain ⟨d1, d2, d3, d4, d5, d6, d7, d8⟩ := b3 i hi
  rw [← d2] at d4 d5 d7
  unfold opn oI2
  rw [fb_subI, fb_subI, fb_subI, fb_subI] <;> (try rw [fb_subI]) <;> (try rw [fb_subI]) <;> (try rw [fb_subI]) <;> omega
theorem due_I {B : TBL} {n q i : Nat} {td : Int32} {mm ww : Nat → Int32} (h : BI B n q mm ww) (hi : i < n) : 0 ≤ (dueN B i td).toInt ∧ (dueN B i td).toInt ≤ oI2 B i ∧
    ((opn B i = B 1 i ∧ ¬ B 4 i < td ∧ (dueN B i td).toInt = (B 1 i).toInt - (B 3 i).toInt) ∨ (¬ (opn B i = B 1 i ∧ ¬ B 4 i < td) ∧ dueN B i td = opn B i)) := by
  have ho := opn_I h hi
  obtain ⟨b1, b2, b3, b4⟩ := h
  obtain ⟨d1, d2, d3, d4, d5, d6, d7, d8⟩ := b3 i hi
  rw [← d2] at d4 d5 d7
  unfold dueN
  by_cases z : opn B i = B 1 i ∧ ¬ B 4 i < td
  · rw [if_pos z]
    have e := ho.1
    rw [z.1] at e
    rw [z.1, fb_subI (by omega) (by omega)]
    exact ⟨by omega, by omega, Or.inl ⟨rfl, z.2, rfl⟩⟩
  · rw [if_neg z]
    exact ⟨by omega, by omega, Or.inr ⟨z, rfl⟩⟩
/-- a payment of s of the receipt rc to the bill b -/
def PayS (B R B' R' : TBL) (rc b : Nat) (s : Int) : Prop :=
  ((∀ k i, i ≠ b → B' k i = B k i) ∧ (∀ k i, k ≠ 5 → k ≠ 6 → k ≠ 7 → B' k i = B k i)) ∧
  ((∀ k i, k ≠ 2 → k ≠ 3 → k ≠ 6 → k ≠ 7 → R' k i = R k i) ∧ (∀ k i, k < 6 → i ≠ rc → R' k i = R k i) ∧ (∀ k j, 5 < k → j ≠ 40 * rc + b → R' k j = R k j)) ∧
  (0 ≤ s ∧ s ≤ (R 3 rc).toInt ∧ (B' 5 b).toInt = (B 5 b).toInt + s ∧ (R' 6 (40 * rc + b)).toInt = (R 6 (40 * rc + b)).toInt + s ∧ (R' 3 rc).toInt = (R 3 rc).toInt - s ∧ (R' 2 rc).toInt = (R 2 rc).toInt + s ∧ R' 7 (40 * rc + b) = 1) ∧
  ((B' 6 b = B 6 b ∧ B' 7 b = B 7 b) ∨ (B' 6 b = B 3 b ∧ B' 7 b = nI rc ∧ (B 5 b).toInt = 0 ∧ (B 6 b).toInt = 0 ∧ (B 8 b).toInt = 0 ∧ (B 10 b).toInt = 0)) ∧
  oI2 B' b + s ≤ oI2 B b ∧ 0 ≤ oI2 B' b ∧ ((R' 3 rc).toInt = 0 ∨ oI2 B' b = 0)
theorem pay_s {ex : Nat} {B R : TBL} {n q rc b : Nat} {td : Int32} {mm ww : Nat → Int32} (h : Inx ex B R n q mm ww) (hrc : rc < q) (hb : b < n) : ∃ s, PayS B R (payB B R rc b td) (payR B R rc b td) rc b s := by
  obtain ⟨hB, hR, hX, hS⟩ := h
  have ho := opn_I hB hb
  have hd := due_I (td := td) hB hb
  obtain ⟨b1, b2, b3, b4⟩ := hB
  obtain ⟨c1, c2, c3, c4, c5, -⟩ := b4 b (by omega)
  have c5 := c5 hb
  obtain ⟨d1, d2, d3, d4, d5, d6, d7, d8⟩ := b3 b hb
  rw [← d2] at d4 d5 d7
  obtain ⟨r1, r2, r3, r4, r5⟩ := hR
  obtain ⟨e1, e2, e3, e4, e5, e6, e7, e8, e9, e10, e11⟩ := r4 rc hrc
  have hc6 : (R 6 (40 * rc + b)).toInt ≤ (R 2 rc).toInt := by
    rw [hS.2 rc (by omega)]
    exact sI_g (f := fun b => (R 6 (40 * rc + b)).toInt) (fun k hk => (hX rc k (by omega) hk).1) (by omega)
  have hc60 := (hX rc b (by omega) (by omega)).1
  have hs0 : 0 ≤ (payS B R rc b td).toInt ∧ (payS B R rc b td).toInt ≤ (R 3 rc).toInt ∧ (payS B R rc b td).toInt ≤ (dueN B b td).toInt := by
    unfold payS
    by_cases z : R 3 rc < dueN B b td
    · rw [if_pos z]
      rw [ltI] at z
      exact ⟨by omega, by omega, by omega⟩
    · rw [if_neg z]
      rw [ltI] at z
      exact ⟨by omega, by omega, by omega⟩
  obtain ⟨s0, s1, s2⟩ := hs0
  have hR1 : ∀ k i, k ≠ 2 → k ≠ 3 → k ≠ 6 → k ≠ 7 → payR B R rc b td k i = R k i := fun k i h2 h3 h6 h7 => by
    simp [payR, addP, pt_at, h2, h3, h6, h7]
  have hR2 : ∀ k i, k < 6 → i ≠ rc → payR B R rc b td k i = R k i := fun k i hk hi => by
    have h6 : k ≠ 6 := by omega
    have h7 : k ≠ 7 := by omega
    simp [payR, addP, pt_at, hi, h6, h7]
  have hR3 : ∀ k j, 5 < k → j ≠ 40 * rc + b → payR B R rc b td k j = R k j := fun k j hk hj => by
    have h2 : k ≠ 2 := by omega
    have h3 : k ≠ 3 := by omega
    simp [payR, addP, pt_at, hj, h2, h3]
  have q6 : (payR B R rc b td 6 (40 * rc + b)).toInt = (R 6 (40 * rc + b)).toInt + (payS B R rc b td).toInt := by
    have : payR B R rc b td 6 (40 * rc + b) = R 6 (40 * rc + b) + payS B R rc b td := by simp [payR, addP, pt_at]
    rw [this, fb_addI (by omega) (by omega)]
  have q3 : (payR B R rc b td 3 rc).toInt = (R 3 rc).toInt - (payS B R rc b td).toInt := by
    have : payR B R rc b td 3 rc = R 3 rc - payS B R rc b td := by simp [payR, addP, pt_at]
    rw [this, fb_subI (by omega) (by omega)]
  have q2 : (payR B R rc b td 2 rc).toInt = (R 2 rc).toInt + (payS B R rc b td).toInt := by
    have : payR B R rc b td 2 rc = R 2 rc + payS B R rc b td := by simp [payR, addP, pt_at]
    rw [this, fb_addI (by omega) (by omega)]
  have q7 : payR B R rc b td 7 (40 * rc + b) = 1 := by simp [payR, addP, pt_at]
  refine ⟨(payS B R rc b td).toInt, ?_⟩
  by_cases z : R 3 rc < dueN B b td
  · have es : payS B R rc b td = R 3 rc := if_pos z
    have eB : payB B R rc b td = pt B 5 b (B 5 b + R 3 rc) := if_pos z
    rw [es] at q6 q3 q2 s0 s1 s2
    rw [eB, es]
    have p5 : (pt B 5 b (B 5 b + R 3 rc) 5 b).toInt = (B 5 b).toInt + (R 3 rc).toInt := by
      rw [pt_s, fb_addI (by omega) (by omega)]
    have po : oI2 (pt B 5 b (B 5 b + R 3 rc)) b = oI2 B b - (R 3 rc).toInt := by
      unfold oI2
      rw [p5]
      simp only [pt_at]
      simp
      omega
    refine ⟨⟨fun k i hi => ?_, fun k i h5 h6 h7 => ?_⟩, ⟨hR1, hR2, hR3⟩, ⟨s0, s1, p5, q6, q3, q2, q7⟩, Or.inl ⟨?_, ?_⟩, ?_, ?_, Or.inl ?_⟩
    · exact pt_o (fun w => hi w.2)
    · exact pt_o (fun w => h5 w.1)
    · exact pt_o (fun w => absurd w.1 (by decide))
    · exact pt_o (fun w => absurd w.1 (by decide))
    · omega
    · omega
    · omega
  · have es : payS B R rc b td = dueN B b td := if_neg z
    have eB : payB B R rc b td = pt (tkD B b (nI rc) td) 5 b (tkD B b (nI rc) td 5 b + dueN B b td) := if_neg z
    rw [es] at q6 q3 q2 s0 s1 s2
    rw [eB, es]
    rcases hd.2.2 with ⟨g1, g2, g3⟩ | ⟨g1, g2⟩
    · have et : tkD B b (nI rc) td = pt (pt B 6 b (B 3 b)) 7 b (nI rc) := if_pos ⟨g1, g2⟩
      have e55 : tkD B b (nI rc) td 5 b = B 5 b := by rw [et]; simp [pt_at]
      have hz : oI2 B b = (B 1 b).toInt := by rw [← ho.1, g1]
      unfold oI2 at hz
      rw [e55]
      have p5 : (pt (tkD B b (nI rc) td) 5 b (B 5 b + dueN B b td) 5 b).toInt = (B 5 b).toInt + (dueN B b td).toInt := by
        rw [pt_s, fb_addI (by omega) (by omega)]
      have p6 : pt (tkD B b (nI rc) td) 5 b (B 5 b + dueN B b td) 6 b = B 3 b := by rw [et]; simp [pt_at]
      have p7 : pt (tkD B b (nI rc) td) 5 b (B 5 b + dueN B b td) 7 b = nI rc := by rw [et]; simp [pt_at]
      have po : oI2 (pt (tkD B b (nI rc) td) 5 b (B 5 b + dueN B b td)) b = 0 := by
        unfold oI2
        rw [p5, p6, et]
        simp only [pt_at]
        simp
        omega
      refine ⟨⟨fun k i hi => ?_, fun k i h5 h6 h7 => ?_⟩, ⟨hR1, hR2, hR3⟩, ⟨s0, s1, p5, q6, q3, q2, q7⟩, Or.inr ⟨p6, p7, by omega, by omega, by omega, by omega⟩, ?_, ?_, Or.inr po⟩
      · rw [et, pt_o (fun w => hi w.2), pt_o (fun w => hi w.2), pt_o (fun w => hi w.2)]
      · rw [et, pt_o (fun w => h5 w.1), pt_o (fun w => h7 w.1), pt_o (fun w => h6 w.1)]
      · rw [po]
        unfold oI2
        omega
      · omega
    · have et : tkD B b (nI rc) td = B := if_neg g1
      rw [et]
      have e9 : (dueN B b td).toInt = oI2 B b := by rw [g2, ho.1]
      have hz := e9
      unfold oI2 at hz
      have p5 : (pt B 5 b (B 5 b + dueN B b td) 5 b).toInt = (B 5 b).toInt + (dueN B b td).toInt := by
        rw [pt_s, fb_addI (by omega) (by omega)]
      have po : oI2 (pt B 5 b (B 5 b + dueN B b td)) b = 0 := by
        unfold oI2
        rw [p5]
        simp only [pt_at]
        simp
        omega
      refine ⟨⟨fun k i hi => ?_, fun k i h5 h6 h7 => ?_⟩, ⟨hR1, hR2, hR3⟩, ⟨s0, s1, p5, q6, q3, q2, q7⟩, Or.inl ⟨?_, ?_⟩, ?_, ?_, Or.inr po⟩
      · exact pt_o (fun w => hi w.2)
      · exact pt_o (fun w => h5 w.1)
      · exact pt_o (fun w => absurd w.1 (by decide))
      · exact pt_o (fun w => absurd w.1 (by decide))
      · omega
      · omega
