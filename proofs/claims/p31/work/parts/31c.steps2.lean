section STEPS2
variable {ex : Nat} {B B' R R' : TBL} {n q rc b : Nat} {mm ww : Nat → Int32}
/-- a bill is made -/
theorem addB_inv {cu am rf di un : Int32} (h : Inx ex B R n q mm ww) (hn : n < 40) (hcu : cu = 0 ∨ cu = 1) (ha : 0 ≤ am.toInt ∧ am.toInt ≤ 10000) (hd : 0 ≤ di.toInt ∧ di.toInt ≤ am.toInt) : Inx ex (addB B n cu am rf di un) R (n + 1) q (upd mm n am) (upd ww n cu) := by
  obtain ⟨⟨b1, b2, b3, b4⟩, hR, hX, hS⟩ := h
  have e5 : ∀ k i, k = 5 ∨ k = 6 ∨ k = 8 ∨ k = 10 → addB B n cu am rf di un k i = B k i := fun k i hk => by
    unfold addB
    rw [pt_o (by omega), pt_o (by omega), pt_o (by omega), pt_o (by omega), pt_o (by omega), pt_o (by omega), pt_o (by omega), pt_o (by omega)]
  have e2 : ∀ k i, k ≠ 11 → i ≠ n → addB B n cu am rf di un k i = B k i := fun k i hk hi => by
    unfold addB
    rw [pt_o (by omega), pt_o (by omega), pt_o (by omega), pt_o (by omega), pt_o (by omega), pt_o (by omega), pt_o (by omega), pt_o (by omega)]
  have u1 : ∀ (f : Nat → Int32) x i, i ≠ n → upd f n x i = f i := fun f x i hi => by simp [upd, hi]
  have u2 : ∀ (f : Nat → Int32) x, upd f n x n = x := fun f x => by simp [upd]
  refine ⟨⟨by simp [addB, pt_at], by omega, fun i hi => ?_, fun i hi => ?_⟩, hR, fun r i hr hi => ?_, fun i hi => ?_, hS.2⟩
  · by_cases e : i = n
    · subst e
      rw [u2, u2]
      refine ⟨by simp [addB, pt_at], by simp [addB, pt_at], hcu, ha.1, ha.2, ?_, ?_, ?_⟩
      · have : addB B i cu am rf di un 3 i = di := by simp [addB, pt_at]
        rw [this]
        exact hd.1
      · have : addB B i cu am rf di un 3 i = di := by simp [addB, pt_at]
        rw [this]
        exact hd.2
      · have : addB B i cu am rf di un 7 i = -1 := by simp [addB, pt_at]
        rw [this, im1]
        omega
    · rw [u1 _ _ _ e, u1 _ _ _ e, e2 0 i (by decide) e, e2 1 i (by decide) e, e2 3 i (by decide) e, e2 7 i (by decide) e]
      exact b3 i (by omega)
  · obtain ⟨c1, c2, c3, c4, c5, c6⟩ := b4 i hi
    rw [e5 5 i (by omega), e5 6 i (by omega), e5 8 i (by omega), e5 10 i (by omega)]
    refine ⟨c1, c2, c3, c4, fun hin => ?_, fun hin => c6 (by omega)⟩
    by_cases e : i = n
    · subst e
      obtain ⟨z1, z2, z3, z4⟩ := c6 (Nat.le_refl _)
      have : addB B i cu am rf di un 1 i = am := by simp [addB, pt_at]
      rw [this, z1, z2, z3, z4, i0]
      omega
    · rw [e2 1 i (by decide) e]
      exact c5 (by omega)
  · obtain ⟨g1, g2, g3⟩ := hX r i hr hi
    refine ⟨g1, g2, fun z => ?_⟩
    obtain ⟨k1, k2, k3, k4⟩ := g3 z
    refine ⟨k1, by omega, ?_, k4⟩
    rw [e2 0 i (by decide) (by omega)]
    exact k3
  · rw [e5 5 i (by omega)]
    exact hS.1 i hi
/-- a receipt comes -/
theorem addR_inv {cu am : Int32} (h : Inv B R n q mm ww) (hq : q < 30) (hcu : -1 ≤ cu.toInt ∧ cu.toInt < 8) (ha : 0 ≤ am.toInt ∧ am.toInt ≤ 10000) : Inv B (addR R q cu am) n (q + 1) mm ww := by
  obtain ⟨⟨b1, b2, b3, b4⟩, ⟨r1, r2, r3, r4, r5⟩, hX, hS⟩ := h
  have e1 : ∀ k i, k ≠ 0 → k ≠ 1 → k ≠ 3 → k ≠ 8 → addR R q cu am k i = R k i := fun k i h0 h1 h3 h8 => by
    unfold addR
    rw [pt_o (by omega), pt_o (by omega), pt_o (by omega), pt_o (by omega)]
  have e2 : ∀ k i, k ≠ 8 → i ≠ q → addR R q cu am k i = R k i := fun k i h8 hi => by
    unfold addR
    rw [pt_o (by omega), pt_o (by omega), pt_o (by omega), pt_o (by omega)]
  refine ⟨⟨b1, b2, fun i hi => ?_, b4⟩, ⟨by simp [addR, pt_at], by omega, fun j => ?_, fun r hr => ?_, fun r hr hqr => ?_⟩, fun r i hr hi => ?_, fun i hi => ?_, fun r hr => ?_⟩
  · obtain ⟨d1, d2, d3, d4, d5, d6, d7, d8⟩ := b3 i hi
    exact ⟨d1, d2, d3, d4, d5, d6, d7, by omega⟩
  · rw [e1 7 j (by decide) (by decide) (by decide) (by decide)]
    exact r3 j
  · by_cases e : r = q
    · subst e
      obtain ⟨z1, z2, z3⟩ := r5 r hq (Nat.le_refl _)
      have a0 : addR R r cu am 0 r = cu := by simp [addR, pt_at]
      have a1 : addR R r cu am 1 r = am := by simp [addR, pt_at]
      have a3 : addR R r cu am 3 r = am := by simp [addR, pt_at]
      rw [a0, a1, a3, e1 2 r (by decide) (by decide) (by decide) (by decide), e1 4 r (by decide) (by decide) (by decide) (by decide), e1 5 r (by decide) (by decide) (by decide) (by decide), z1, z2, z3, i0]
      exact ⟨Or.inl rfl, hcu.1, hcu.2, ha.1, ha.2, Int.le_refl _, ha.1, Int.le_refl _, by omega, fun _ _ => by omega, fun z => absurd z (by decide)⟩
    · rw [e2 0 r (by decide) e, e2 1 r (by decide) e, e2 2 r (by decide) e, e2 3 r (by decide) e, e2 4 r (by decide) e, e2 5 r (by decide) e]
      exact r4 r (by omega)
  · rw [e2 2 r (by decide) (by omega), e2 4 r (by decide) (by omega), e2 5 r (by decide) (by omega)]
    exact r5 r hr (by omega)
  · rw [e1 6 _ (by decide) (by decide) (by decide) (by decide), e1 7 _ (by decide) (by decide) (by decide) (by decide), e1 5 r (by decide) (by decide) (by decide) (by decide)]
    obtain ⟨g1, g2, g3⟩ := hX r i hr hi
    refine ⟨g1, g2, fun z => ?_⟩
    obtain ⟨k1, k2, k3, k4⟩ := g3 z
    rw [e2 0 r (by decide) (by omega)]
    exact ⟨by omega, k2, k3, k4⟩
  · rw [hS.1 i hi]
    exact sI_c (fun k hk => by rw [e1 6 _ (by decide) (by decide) (by decide) (by decide)])
  · rw [e1 2 r (by decide) (by decide) (by decide) (by decide), hS.2 r hr]
    exact sI_c (fun k hk => by rw [e1 6 _ (by decide) (by decide) (by decide) (by decide)])
/-- what is left is paid back -/
theorem pbR_inv (h : Inv B R n q mm ww) (hrc : rc < q) (h5 : R 5 rc = 0) : Inv B (pbR R rc) n q mm ww := by
  obtain ⟨hB, hR, hX, hS⟩ := h
  have e1 : ∀ k i, k ≠ 3 → k ≠ 4 → pbR R rc k i = R k i := fun k i h3 h4 => by
    unfold pbR
    rw [pt_o (by omega), pt_o (by omega)]
  have e2 : ∀ k i, i ≠ rc → pbR R rc k i = R k i := fun k i hi => by
    unfold pbR
    rw [pt_o (by omega), pt_o (by omega)]
  obtain ⟨f1, f2, f3, f4, f5, f6, f7, f8, f9, f10, f11⟩ := hR.2.2.2.1 rc hrc
  have a3 : pbR R rc 3 rc = 0 := by simp [pbR, pt_at]
  have a4 : (pbR R rc 4 rc).toInt = (R 4 rc).toInt + (R 3 rc).toInt := by
    have : pbR R rc 4 rc = R 4 rc + R 3 rc := by simp [pbR, pt_at]
    rw [this, fb_addI (by omega) (by omega)]
  refine ⟨hB, RI_upd hR (e1 8 0 (by decide) (by decide)) (fun j => by rw [e1 7 j (by decide) (by decide)]; exact hR.2.2.1 j) (fun k r _ hr => e2 k r hr) hrc ?_, fun r i hr hi => ?_, fun i hi => ?_, fun r hr => ?_⟩
  · rw [e1 0 rc (by decide) (by decide), e1 1 rc (by decide) (by decide), e1 2 rc (by decide) (by decide), e1 5 rc (by decide) (by decide), a3, a4, i0]
    refine ⟨f1, f2, f3, f4, f5, f6, Int.le_refl _, by omega, by omega, fun g1 g2 => ?_, fun g => ?_⟩
    · have := f10 g1 g2
      omega
    · rw [h5] at g
      exact absurd g (by decide)
  · rw [e1 6 _ (by decide) (by decide), e1 7 _ (by decide) (by decide), e1 5 _ (by decide) (by decide), e1 0 _ (by decide) (by decide)]
    exact hX r i hr hi
  · rw [hS.1 i hi]
    exact sI_c (fun k hk => by rw [e1 6 _ (by decide) (by decide)])
  · rw [e1 2 _ (by decide) (by decide), hS.2 r hr]
    exact sI_c (fun k hk => by rw [e1 6 _ (by decide) (by decide)])
/-- what a receipt did to a bill is undone -/
def UndS (B R B' R' : TBL) (rc b : Nat) : Prop :=
  ((∀ k i, i ≠ b → B' k i = B k i) ∧ (∀ k i, k = 0 ∨ k = 1 ∨ k = 2 ∨ k = 3 ∨ k = 4 ∨ k = 10 ∨ k = 11 → B' k i = B k i)) ∧
  ((∀ k i, k ≠ 2 → k ≠ 6 → k ≠ 7 → R' k i = R k i) ∧ (∀ k i, k < 6 → i ≠ rc → R' k i = R k i) ∧ (∀ k j, 5 < k → j ≠ 40 * rc + b → R' k j = R k j)) ∧
  ((B' 5 b).toInt = (B 5 b).toInt - (R 6 (40 * rc + b)).toInt ∧ R' 6 (40 * rc + b) = 0 ∧ (R' 2 rc).toInt = (R 2 rc).toInt - (R 6 (40 * rc + b)).toInt ∧ R' 7 (40 * rc + b) = 0) ∧
  ((B 7 b = nI rc ∧ B' 6 b = 0 ∧ B' 7 b = -1) ∨ (¬ B 7 b = nI rc ∧ B' 6 b = B 6 b ∧ B' 7 b = B 7 b)) ∧
  ((B 9 b = nI rc ∧ B' 8 b = 0) ∨ (¬ B 9 b = nI rc ∧ B' 8 b = B 8 b))
theorem und_s (h : Inx ex B R n q mm ww) (hrc : rc < q) (hb : b < n) : UndS B R (und B b (nI rc) (R 6 (40 * rc + b))) (drpP R rc b) rc b := by
  obtain ⟨hB, hR, hX, hS⟩ := h
  have hn := hB.2.1
  have hq := hR.2.1
  have hx := hX rc b (by omega) (by omega)
  have h6 : (R 6 (40 * rc + b)).toInt ≤ (R 2 rc).toInt := by
    rw [hS.2 rc (by omega)]
    exact sI_g (f := fun b => (R 6 (40 * rc + b)).toInt) (fun k hk => (hX rc k (by omega) hk).1) (by omega)
  have h6b : (R 6 (40 * rc + b)).toInt ≤ (B 5 b).toInt := by
    rw [hS.1 b (by omega)]
    exact sI_g (f := fun r => (R 6 (40 * r + b)).toInt) (fun k hk => (hX k b hk (by omega)).1) (by omega)
  have hb4 := hB.2.2.2 b (by omega)
  have g4 := hb4.2.2.2.2.1 hb
  have o := opn_I hB hb
  obtain ⟨f1, f2, f3, f4, f5, f6, f7, f8, f9, f10, f11⟩ := hR.2.2.2.1 rc hrc
  have u1 : ∀ k i, i ≠ b → und1 B b (nI rc) (R 6 (40 * rc + b)) k i = B k i := fun k i hi => by
    unfold und1
    split
    · rw [pt_o (by omega), pt_o (by omega), pt_o (by omega)]
    · rw [pt_o (by omega)]
  have u1c : ∀ k i, k ≠ 5 → k ≠ 6 → k ≠ 7 → und1 B b (nI rc) (R 6 (40 * rc + b)) k i = B k i := fun k i h5 h6 h7 => by
    unfold und1
    split
    · rw [pt_o (by omega), pt_o (by omega), pt_o (by omega)]
    · rw [pt_o (by omega)]
  have u2 : ∀ (C : TBL) k i, i ≠ b → und2 C b (nI rc) k i = C k i := fun C k i hi => by
    unfold und2 edD
    split
    · rw [if_pos rfl, pt_o (by omega), pt_o (by omega)]
    · rfl
  have u2c : ∀ (C : TBL) k i, k ≠ 8 → k ≠ 9 → und2 C b (nI rc) k i = C k i := fun C k i h8 h9 => by
    unfold und2 edD
    split
    · rw [if_pos rfl, pt_o (by omega), pt_o (by omega)]
    · rfl
  refine ⟨⟨fun k i hi => ?_, fun k i hk => ?_⟩, ⟨fun k i h2 h6 h7 => ?_, fun k i hk hi => ?_, fun k j hk hj => ?_⟩, ⟨?_, ?_, ?_, ?_⟩, ?_, ?_⟩
  · unfold und
    rw [u2 _ k i hi, u1 k i hi]
  · unfold und
    rw [u2c _ k i (by omega) (by omega), u1c k i (by omega) (by omega) (by omega)]
  · unfold drpP
    rw [pt_o (by omega), pt_o (by omega), pt_o (by omega)]
  · unfold drpP
    rw [pt_o (by omega), pt_o (by omega), pt_o (by omega)]
  · unfold drpP
    rw [pt_o (by omega), pt_o (by omega), pt_o (by omega)]
  · have : und B b (nI rc) (R 6 (40 * rc + b)) 5 b = B 5 b - R 6 (40 * rc + b) := by
      unfold und
      rw [u2c _ 5 b (by decide) (by decide)]
      unfold und1
      split <;> simp [pt_at]
    rw [this, fb_subI (by omega) (by omega)]
  · simp [drpP, pt_at]
  · have : drpP R rc b 2 rc = R 2 rc - R 6 (40 * rc + b) := by simp [drpP, pt_at]
    rw [this, fb_subI (by omega) (by omega)]
  · simp [drpP, pt_at]
  · by_cases z : B 7 b = nI rc
    · refine Or.inl ⟨z, ?_, ?_⟩
      · unfold und
        rw [u2c _ 6 b (by decide) (by decide)]
        unfold und1
        rw [if_pos z]
        simp [pt_at]
      · unfold und
        rw [u2c _ 7 b (by decide) (by decide)]
        unfold und1
        rw [if_pos z]
        simp [pt_at]
    · refine Or.inr ⟨z, ?_, ?_⟩
      · unfold und
        rw [u2c _ 6 b (by decide) (by decide)]
        unfold und1
        rw [if_neg z]
        simp [pt_at]
      · unfold und
        rw [u2c _ 7 b (by decide) (by decide)]
        unfold und1
        rw [if_neg z]
        simp [pt_at]
  · have e9 : und1 B b (nI rc) (R 6 (40 * rc + b)) 9 b = B 9 b := u1c 9 b (by decide) (by decide) (by decide)
    have e8 : und1 B b (nI rc) (R 6 (40 * rc + b)) 8 b = B 8 b := u1c 8 b (by decide) (by decide) (by decide)
    by_cases z : B 9 b = nI rc
    · refine Or.inl ⟨z, ?_⟩
      unfold und und2 edD
      rw [if_pos (e9.trans z), if_pos rfl]
      simp [pt_at]
    · refine Or.inr ⟨z, ?_⟩
      unfold und und2
      rw [if_neg (fun w => z (e9.symm.trans w)), e8]
theorem UndS.inv (h : Inx rc B R n q mm ww) (hp : UndS B R B' R' rc b) (hrc : rc < q) (hb : b < n) (h5 : R 5 rc = 0) : Inx rc B' R' n q mm ww := by
  obtain ⟨hB, hR, hX, hS⟩ := h
  obtain ⟨⟨p1, p2⟩, ⟨p3, p4, p5⟩, ⟨s1, s2, s3, s4⟩, p6, p7⟩ := hp
  have hn := hB.2.1
  have hq := hR.2.1
  have hx := hX rc b (by omega) (by omega)
  have h6 : (R 6 (40 * rc + b)).toInt ≤ (R 2 rc).toInt := by
    rw [hS.2 rc (by omega)]
    exact sI_g (f := fun b => (R 6 (40 * rc + b)).toInt) (fun k hk => (hX rc k (by omega) hk).1) (by omega)
  have h6b : (R 6 (40 * rc + b)).toInt ≤ (B 5 b).toInt := by
    rw [hS.1 b (by omega)]
    exact sI_g (f := fun r => (R 6 (40 * r + b)).toInt) (fun k hk => (hX k b hk (by omega)).1) (by omega)
  have hb4 := hB.2.2.2 b (by omega)
  have g4 := hb4.2.2.2.2.1 hb
  have hb3 := hB.2.2.1 b hb
  obtain ⟨f1, f2, f3, f4, f5, f6, f7, f8, f9, f10, f11⟩ := hR.2.2.2.1 rc hrc
  have q6 : 0 ≤ (B' 6 b).toInt ∧ (B' 6 b).toInt ≤ (B 6 b).toInt := by
    rcases p6 with ⟨-, g, -⟩ | ⟨-, g, -⟩
    · rw [g, i0]
      exact ⟨Int.le_refl _, hb4.2.1⟩
    · rw [g]
      exact ⟨hb4.2.1, Int.le_refl _⟩
  have q8 : 0 ≤ (B' 8 b).toInt ∧ (B' 8 b).toInt ≤ (B 8 b).toInt := by
    rcases p7 with ⟨-, g⟩ | ⟨-, g⟩
    · rw [g, i0]
      exact ⟨Int.le_refl _, hb4.2.2.1⟩
    · rw [g]
      exact ⟨hb4.2.2.1, Int.le_refl _⟩
  refine ⟨BI_upd hB hb p1 (fun k i hk => p2 k i (by omega)) ?_ ⟨by omega, q6.1, q8.1, ?_, ?_⟩, RI_upd hR (p3 8 0 (by decide) (by decide) (by decide)) (fun j => ?_) p4 hrc ?_, XI_upd hX (fun j hj => ⟨p5 6 j (by decide) hj, p5 7 j (by decide) hj⟩) (fun r => p3 0 r (by decide) (by decide) (by decide)) (fun r => p3 5 r (by decide) (by decide) (by decide)) (fun i => p2 0 i (by omega)) (by omega) ?_,
    SI_upd (d := - (R 6 (40 * rc + b)).toInt) hS (by omega) (by omega) (fun j hj => p5 6 j (by decide) hj) (by rw [s2, i0]; omega) (fun i hi => p1 5 i hi) (by omega) (fun r hr => p4 2 r (by decide) hr) (by omega)⟩
  · rcases p6 with ⟨-, -, g⟩ | ⟨-, -, g⟩
    · rw [g, im1]
      omega
    · rw [g]
      exact hb3.2.2.2.2.2.2.2
  · rw [p2 10 b (by omega)]
    exact hb4.2.2.2.1
  · unfold oI2
    rw [p2 1 b (by omega), p2 10 b (by omega)]
    omega
  · by_cases e : j = 40 * rc + b
    · rw [e]
      exact Or.inl s4
    · rw [p5 7 j (by decide) e]
      exact hR.2.2.1 j
  · rw [p3 0 rc (by decide) (by decide) (by decide), p3 1 rc (by decide) (by decide) (by decide), p3 3 rc (by decide) (by decide) (by decide), p3 4 rc (by decide) (by decide) (by decide), p3 5 rc (by decide) (by decide) (by decide)]
    refine ⟨f1, f2, f3, f4, f5, by omega, f7, f8, by omega, fun g1 g2 => absurd rfl g1, fun g => ?_⟩
    rw [h5] at g
    exact absurd g (by decide)
  · rw [s2, i0]
    exact ⟨Int.le_refl _, fun _ => rfl, fun z => absurd s4 z⟩
/-- it has bounced -/
theorem mkB_inv (h : Inx rc B R n q mm ww) (hrc : rc < q) (h4 : R 4 rc = 0) (hz : ∀ b, b < n → R 7 (40 * rc + b) = 0) : Inv B (mkB R rc) n q mm ww := by
  obtain ⟨hB, hR, hX, hS⟩ := h
  have hq := hR.2.1
  have hn := hB.2.1
  have e1 : ∀ k i, k ≠ 3 → k ≠ 5 → mkB R rc k i = R k i := fun k i h3 h4 => by
    unfold mkB
    rw [pt_o (by omega), pt_o (by omega)]
  have e2 : ∀ k i, i ≠ rc → mkB R rc k i = R k i := fun k i hi => by
    unfold mkB
    rw [pt_o (by omega), pt_o (by omega)]
  have a3 : mkB R rc 3 rc = 0 := by simp [mkB, pt_at]
  have a5 : mkB R rc 5 rc = 1 := by simp [mkB, pt_at]
  have hz2 : ∀ b, b < 40 → R 7 (40 * rc + b) = 0 := fun b hb => by
    by_cases w : b < n
    · exact hz b w
    · refine Classical.byContradiction fun z => ?_
      exact w ((hX rc b (by omega) hb).2.2 z).2.1
  have r2 : (R 2 rc).toInt = 0 := by
    rw [hS.2 rc (by omega)]
    exact sI_z (fun k hk => by rw [(hX rc k (by omega) hk).2.1 (hz2 k hk), i0])
  have hr2 : R 2 rc = 0 := eqI (by rw [r2, i0])
  obtain ⟨r1, rq, r3, r4, r5⟩ := hR
  refine ⟨hB, ⟨(e1 8 0 (by decide) (by decide)).trans r1, rq, fun j => by rw [e1 7 j (by decide) (by decide)]; exact r3 j, fun r hr => ?_, fun r hr hqr => ?_⟩, fun r i hr hi => ?_, fun i hi => ?_, fun r hr => ?_⟩
  · by_cases e : r = rc
    · subst e
      obtain ⟨f1, f2, f3, f4, f5, f6, f7, f8, f9, f10, f11⟩ := r4 r hrc
      rw [e1 0 r (by decide) (by decide), e1 1 r (by decide) (by decide), e1 2 r (by decide) (by decide), e1 4 r (by decide) (by decide), a3, a5, hr2, h4, i0]
      exact ⟨Or.inr rfl, f2, f3, f4, f5, Int.le_refl _, Int.le_refl _, Int.le_refl _, by omega, fun _ z => absurd z (by decide), fun _ => ⟨rfl, rfl, rfl⟩⟩
    · rw [e2 0 r e, e2 1 r e, e2 2 r e, e2 3 r e, e2 4 r e, e2 5 r e]
      obtain ⟨f1, f2, f3, f4, f5, f6, f7, f8, f9, f10, f11⟩ := r4 r hr
      exact ⟨f1, f2, f3, f4, f5, f6, f7, f8, f9, fun _ => f10 e, f11⟩
  · have e : r ≠ rc := by omega
    rw [e2 2 r e, e2 4 r e, e2 5 r e]
    exact r5 r hr hqr
  · rw [e1 6 _ (by decide) (by decide), e1 7 _ (by decide) (by decide), e1 0 _ (by decide) (by decide)]
    obtain ⟨g1, g2, g3⟩ := hX r i hr hi
    refine ⟨g1, g2, fun z => ?_⟩
    have e : r ≠ rc := fun e => by
      rw [e] at z
      exact z (hz2 i hi)
    rw [e2 5 r e]
    exact g3 z
  · rw [hS.1 i hi]
    exact sI_c (fun k hk => by rw [e1 6 _ (by decide) (by decide)])
  · rw [e1 2 _ (by decide) (by decide), hS.2 r hr]
    exact sI_c (fun k hk => by rw [e1 6 _ (by decide) (by decide)])
/-- a receipt begins to bounce -/
theorem Inv.exempt (h : Inv B R n q mm ww) : Inx rc B R n q mm ww := by
  obtain ⟨hB, ⟨r1, rq, r3, r4, r5⟩, hX, hS⟩ := h
  refine ⟨hB, ⟨r1, rq, r3, fun r hr => ?_, r5⟩, hX, hS⟩
  obtain ⟨f1, f2, f3, f4, f5, f6, f7, f8, f9, f10, f11⟩ := r4 r hr
  exact ⟨f1, f2, f3, f4, f5, f6, f7, f8, f9, fun _ => f10 (by omega), f11⟩
end STEPS2
