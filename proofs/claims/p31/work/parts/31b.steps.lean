/-! What each step of the desk keeps. -/
section STEPS
variable {ex : Nat} {B B' R R' : TBL} {n q rc b : Nat} {mm ww : Nat → Int32}
theorem BI_upd (h : BI B n q mm ww) (hb : b < n) (hne : ∀ k i, i ≠ b → B' k i = B k i) (hc : ∀ k i, k = 0 ∨ k = 1 ∨ k = 3 ∨ k = 11 → B' k i = B k i) (h7 : (B' 7 b).toInt < q) (g : 0 ≤ (B' 5 b).toInt ∧ 0 ≤ (B' 6 b).toInt ∧ 0 ≤ (B' 8 b).toInt ∧ 0 ≤ (B' 10 b).toInt ∧ 0 ≤ oI2 B' b) : BI B' n q mm ww := by
  obtain ⟨b1, b2, b3, b4⟩ := h
  refine ⟨(hc 11 0 (by omega)).trans b1, b2, fun i hi => ?_, fun i hi => ?_⟩
  · obtain ⟨d1, d2, d3, d4, d5, d6, d7, d8⟩ := b3 i hi
    refine ⟨(hc 0 i (by omega)).trans d1, (hc 1 i (by omega)).trans d2, d3, d4, d5, by rw [hc 3 i (by omega)]; exact d6, by rw [hc 3 i (by omega)]; exact d7, ?_⟩
    by_cases e : i = b
    · rw [e]
      exact h7
    · rw [hne 7 i e]
      exact d8
  · by_cases e : i = b
    · subst e
      obtain ⟨g1, g2, g3, g4, g5⟩ := g
      unfold oI2 at g5
      exact ⟨g1, g2, g3, g4, fun _ => by omega, fun z => absurd z (by omega)⟩
    · rw [hne 5 i e, hne 6 i e, hne 8 i e, hne 10 i e, hne 1 i e]
      exact b4 i hi
theorem RI_upd (h : RI R q ex) (h8 : R' 8 0 = R 8 0) (h7 : ∀ j, R' 7 j = 0 ∨ R' 7 j = 1) (hne : ∀ k r, k < 6 → r ≠ rc → R' k r = R k r) (hrc : rc < q)
    (g : (R' 5 rc = 0 ∨ R' 5 rc = 1) ∧ -1 ≤ (R' 0 rc).toInt ∧ (R' 0 rc).toInt < 8 ∧ 0 ≤ (R' 1 rc).toInt ∧ (R' 1 rc).toInt ≤ 10000 ∧ 0 ≤ (R' 2 rc).toInt ∧ 0 ≤ (R' 3 rc).toInt ∧ 0 ≤ (R' 4 rc).toInt ∧
      (R' 2 rc).toInt + (R' 3 rc).toInt + (R' 4 rc).toInt ≤ (R' 1 rc).toInt ∧ (rc ≠ ex → R' 5 rc = 0 → (R' 1 rc).toInt = (R' 2 rc).toInt + (R' 3 rc).toInt + (R' 4 rc).toInt) ∧ (R' 5 rc = 1 → R' 2 rc = 0 ∧ R' 3 rc = 0 ∧ R' 4 rc = 0)) : RI R' q ex := by
  obtain ⟨r1, r2, r3, r4, r5⟩ := h
  refine ⟨h8.trans r1, r2, h7, fun r hr => ?_, fun r hr hq => ?_⟩
  · by_cases e : r = rc
    · subst e
      exact g
    · rw [hne 0 r (by decide) e, hne 1 r (by decide) e, hne 2 r (by decide) e, hne 3 r (by decide) e, hne 4 r (by decide) e, hne 5 r (by decide) e]
      exact r4 r hr
  · have e : r ≠ rc := by omega
    rw [hne 2 r (by decide) e, hne 4 r (by decide) e, hne 5 r (by decide) e]
    exact r5 r hr hq
theorem XI_upd (h : XI B R n q) (hcell : ∀ j, j ≠ 40 * rc + b → R' 6 j = R 6 j ∧ R' 7 j = R 7 j) (h0 : ∀ r, R' 0 r = R 0 r) (h5 : ∀ r, R' 5 r = R 5 r) (hB0 : ∀ i, B' 0 i = B 0 i) (hb : b < 40)
    (g : 0 ≤ (R' 6 (40 * rc + b)).toInt ∧ (R' 7 (40 * rc + b) = 0 → R' 6 (40 * rc + b) = 0) ∧ (¬ R' 7 (40 * rc + b) = 0 → rc < q ∧ b < n ∧ R 0 rc = B 0 b ∧ R 5 rc = 0)) : XI B' R' n q := by
  intro r i hr hi
  by_cases e : 40 * r + i = 40 * rc + b
  · have e1 : r = rc := by omega
    have e2 : i = b := by omega
    subst e1 e2
    rw [h0, h5, hB0]
    exact g
  · rw [(hcell _ e).1, (hcell _ e).2, h0, h5, hB0]
    exact h r i hr hi
theorem SI_upd (h : SI B R) {d : Int} (hrc : rc < 30) (hb : b < 40) (hcell : ∀ j, j ≠ 40 * rc + b → R' 6 j = R 6 j) (h6 : (R' 6 (40 * rc + b)).toInt = (R 6 (40 * rc + b)).toInt + d) (hB5 : ∀ i, i ≠ b → B' 5 i = B 5 i) (hb5 : (B' 5 b).toInt = (B 5 b).toInt + d)
    (hR2 : ∀ r, r ≠ rc → R' 2 r = R 2 r) (hr2 : (R' 2 rc).toInt = (R 2 rc).toInt + d) : SI B' R' := by
  refine ⟨fun i hi => ?_, fun r hr => ?_⟩
  · by_cases e : i = b
    · subst e
      rw [hb5, h.1 i hi, sI_u (f := fun r => (R 6 (40 * r + i)).toInt) (g := fun r => (R' 6 (40 * r + i)).toInt) hrc (fun k hk hne => by rw [hcell _ (by omega)]), h6]
      omega
    · rw [hB5 i e, h.1 i hi]
      exact sI_c (fun k hk => by rw [hcell _ (by omega)])
  · by_cases e : r = rc
    · subst e
      rw [hr2, h.2 r hr, sI_u (f := fun b => (R 6 (40 * r + b)).toInt) (g := fun b => (R' 6 (40 * r + b)).toInt) hb (fun k hk hne => by rw [hcell _ (by omega)]), h6]
      omega
    · rw [hR2 r e, h.2 r hr]
      exact sI_c (fun k hk => by rw [hcell _ (by omega)])
/-- a payment keeps all -/
theorem PayS.inv {s : Int} (h : Inx ex B R n q mm ww) (hp : PayS B R B' R' rc b s) (hrc : rc < q) (hb : b < n) (h5 : R 5 rc = 0) (h0 : R 0 rc = B 0 b) : Inx ex B' R' n q mm ww := by
  obtain ⟨hB, hR, hX, hS⟩ := h
  obtain ⟨⟨p1, p2⟩, ⟨p3, p4, p5⟩, ⟨s0, s1, s2, s3, s4, s5, s6⟩, p6, p7, p8, p9⟩ := hp
  have hn := hB.2.1
  have hb4 := hB.2.2.2 b (by omega)
  have hb3 := hB.2.2.1 b hb
  have hq := hR.2.1
  have hr4 := hR.2.2.2.1 rc hrc
  have hx := hX rc b (by omega) (by omega)
  obtain ⟨e1, e2, e3, e4, e5, e6, e7, e8, e9, e10, e11⟩ := hr4
  have e8b : B' 8 b = B 8 b := p2 8 b (by decide) (by decide) (by decide)
  have e10b : B' 10 b = B 10 b := p2 10 b (by decide) (by decide) (by decide)
  refine ⟨BI_upd hB hb p1 (fun k i hk => p2 k i (by omega) (by omega) (by omega)) ?_ ⟨?_, ?_, ?_, ?_, p8⟩, RI_upd hR (p3 8 0 (by decide) (by decide) (by decide) (by decide)) (fun j => ?_) p4 hrc ?_, XI_upd hX (fun j hj => ⟨p5 6 j (by decide) hj, p5 7 j (by decide) hj⟩) (fun r => p3 0 r (by decide) (by decide) (by decide) (by decide)) (fun r => p3 5 r (by decide) (by decide) (by decide) (by decide)) (fun i => p2 0 i (by decide) (by decide) (by decide)) (by omega) ?_,
    SI_upd hS (by omega) (by omega) (fun j hj => p5 6 j (by decide) hj) s3 (fun i hi => p1 5 i hi) s2 (fun r hr => p4 2 r (by decide) hr) s5⟩
  · rcases p6 with ⟨-, g⟩ | ⟨-, g, -⟩
    · rw [g]
      exact hb3.2.2.2.2.2.2.2
    · rw [g, nI_toInt (by omega)]
      omega
  · omega
  · rcases p6 with ⟨g, -⟩ | ⟨g, -⟩
    · rw [g]
      exact hb4.2.1
    · rw [g]
      exact hb3.2.2.2.2.2.1
  · rw [e8b]
    exact hb4.2.2.1
  · rw [e10b]
    exact hb4.2.2.2.1
  · by_cases e : j = 40 * rc + b
    · rw [e]
      exact Or.inr s6
    · rw [p5 7 j (by decide) e]
      exact hR.2.2.1 j
  · rw [p3 0 rc (by decide) (by decide) (by decide) (by decide), p3 1 rc (by decide) (by decide) (by decide) (by decide), p3 4 rc (by decide) (by decide) (by decide) (by decide), p3 5 rc (by decide) (by decide) (by decide) (by decide)]
    refine ⟨e1, e2, e3, e4, e5, by omega, by omega, e8, by omega, fun g1 g2 => ?_, fun g => ?_⟩
    · have := e10 g1 g2
      omega
    · rw [h5] at g
      exact absurd g (by decide)
  · exact ⟨by omega, fun z => absurd (z.symm.trans s6) (by decide), fun _ => ⟨hrc, hb, h0, h5⟩⟩
/-- what is open of a bill becomes a dispute -/
theorem dsp_inv {v : Int32} (h : Inx ex B R n q mm ww) (hb : b < n) : Inx ex (dsp B b v) R n q mm ww := by
  obtain ⟨hB, hR, hX, hS⟩ := h
  have ho := opn_I hB hb
  have hn := hB.2.1
  have hb4 := hB.2.2.2 b (by omega)
  have hb3 := hB.2.2.1 b hb
  have e1 : ∀ k i, k ≠ 8 → k ≠ 9 → dsp B b v k i = B k i := fun k i h8 h9 => by
    unfold dsp
    rw [pt_o (fun w => h9 w.1), pt_o (fun w => h8 w.1)]
  have e2 : ∀ k i, i ≠ b → dsp B b v k i = B k i := fun k i hi => by
    unfold dsp
    rw [pt_o (fun w => hi w.2), pt_o (fun w => hi w.2)]
  have e8 : (dsp B b v 8 b).toInt = (B 8 b).toInt + oI2 B b := by
    have : dsp B b v 8 b = B 8 b + opn B b := by simp [dsp, pt_at]
    rw [this, fb_addI, ho.1]
    · have := ho.2.1
      have := hb4.2.2.1
      have := ho.1
      omega
    · have g := hb4.2.2.2.2.1 hb
      unfold oI2 at ho
      omega
  refine ⟨BI_upd hB hb e2 (fun k i hk => e1 k i (by omega) (by omega)) ?_ ⟨?_, ?_, ?_, ?_, ?_⟩, hR, fun r i hr hi => ?_, fun i hi => ?_, hS.2⟩
  · rw [e1 7 b (by decide) (by decide)]
    exact hb3.2.2.2.2.2.2.2
  · rw [e1 5 b (by decide) (by decide)]
    exact hb4.1
  · rw [e1 6 b (by decide) (by decide)]
    exact hb4.2.1
  · rw [e8]
    have := hb4.2.2.1
    omega
  · rw [e1 10 b (by decide) (by decide)]
    exact hb4.2.2.2.1
  · unfold oI2
    rw [e8, e1 1 b (by decide) (by decide), e1 5 b (by decide) (by decide), e1 6 b (by decide) (by decide), e1 10 b (by decide) (by decide)]
    unfold oI2
    omega
  · rw [e1 0 i (by decide) (by decide)]
    exact hX r i hr hi
  · rw [e1 5 i (by decide) (by decide)]
    exact hS.1 i hi
/-- a dispute ends -/
theorem edD_inv {zz : Int32} (h : Inx ex B R n q mm ww) (hb : b < n) : Inx ex (edD B b zz) R n q mm ww := by
  obtain ⟨hB, hR, hX, hS⟩ := h
  have ho := opn_I hB hb
  have hn := hB.2.1
  have hb4 := hB.2.2.2 b (by omega)
  have hb3 := hB.2.2.1 b hb
  have e1 : ∀ k i, k ≠ 8 → k ≠ 9 → k ≠ 10 → edD B b zz k i = B k i := fun k i h8 h9 h10 => by
    unfold edD
    split
    · rw [pt_o (fun w => h9 w.1), pt_o (fun w => h8 w.1)]
    · rw [pt_o (fun w => h9 w.1), pt_o (fun w => h8 w.1), pt_o (fun w => h10 w.1)]
  have e2 : ∀ k i, i ≠ b → edD B b zz k i = B k i := fun k i hi => by
    unfold edD
    split
    · rw [pt_o (fun w => hi w.2), pt_o (fun w => hi w.2)]
    · rw [pt_o (fun w => hi w.2), pt_o (fun w => hi w.2), pt_o (fun w => hi w.2)]
  have e8 : edD B b zz 8 b = 0 := by
    unfold edD
    split <;> simp [pt_at]
  have e10 : (edD B b zz 10 b).toInt = (B 10 b).toInt ∨ (edD B b zz 10 b).toInt = (B 10 b).toInt + (B 8 b).toInt := by
    unfold edD
    split
    · left
      simp [pt_at]
    · right
      have : pt (pt (pt B 10 b (B 10 b + B 8 b)) 8 b 0) 9 b (-1) 10 b = B 10 b + B 8 b := by simp [pt_at]
      rw [this, fb_addI]
      · have := hb4.2.2.1
        have := hb4.2.2.2.1
        omega
      · have g := hb4.2.2.2.2.1 hb
        omega
  refine ⟨BI_upd hB hb e2 (fun k i hk => e1 k i (by omega) (by omega) (by omega)) ?_ ⟨?_, ?_, ?_, ?_, ?_⟩, hR, fun r i hr hi => ?_, fun i hi => ?_, hS.2⟩
  · rw [e1 7 b (by decide) (by decide) (by decide)]
    exact hb3.2.2.2.2.2.2.2
  · rw [e1 5 b (by decide) (by decide) (by decide)]
    exact hb4.1
  · rw [e1 6 b (by decide) (by decide) (by decide)]
    exact hb4.2.1
  · rw [e8, i0]
    exact Int.le_refl _
  · have := hb4.2.2.1
    have := hb4.2.2.2.1
    omega
  · unfold oI2
    rw [e8, i0, e1 1 b (by decide) (by decide) (by decide), e1 5 b (by decide) (by decide) (by decide), e1 6 b (by decide) (by decide) (by decide)]
    unfold oI2 at ho
    have := hb4.2.2.1
    have := hb4.2.2.2.1
    omega
  · rw [e1 0 i (by decide) (by decide) (by decide)]
    exact hX r i hr hi
  · rw [e1 5 i (by decide) (by decide) (by decide)]
    exact hS.1 i hi
/-- the customer of a receipt is found -/
theorem setC_inv {v : Int32} (h : Inx ex B R n q mm ww) (hrc : rc < q) (h0 : R 0 rc = -1) (hv : -1 ≤ v.toInt ∧ v.toInt < 8) : Inx ex B (pt R 0 rc v) n q mm ww := by
  obtain ⟨hB, hR, hX, hS⟩ := h
  have hr4 := hR.2.2.2.1 rc hrc
  have hq := hR.2.1
  have e1 : ∀ k i, k ≠ 0 → pt R 0 rc v k i = R k i := fun k i hk => pt_o (fun w => hk w.1)
  have e2 : ∀ k i, i ≠ rc → pt R 0 rc v k i = R k i := fun k i hi => pt_o (fun w => hi w.2)
  obtain ⟨f1, f2, f3, f4, f5, f6, f7, f8, f9, f10, f11⟩ := hr4
  refine ⟨hB, RI_upd hR (e1 8 0 (by decide)) (fun j => by rw [e1 7 j (by decide)]; exact hR.2.2.1 j) (fun k r _ hr => e2 k r hr) hrc ?_, fun r i hr hi => ?_, fun i hi => ?_, fun r hr => ?_⟩
  · rw [pt_s, e1 1 rc (by decide), e1 2 rc (by decide), e1 3 rc (by decide), e1 4 rc (by decide), e1 5 rc (by decide)]
    exact ⟨f1, hv.1, hv.2, f4, f5, f6, f7, f8, f9, f10, f11⟩
  · rw [e1 6 _ (by decide), e1 7 _ (by decide), e1 5 _ (by decide)]
    obtain ⟨g1, g2, g3⟩ := hX r i hr hi
    refine ⟨g1, g2, fun z => ?_⟩
    obtain ⟨k1, k2, k3, k4⟩ := g3 z
    by_cases e : r = rc
    · exfalso
      rw [e, h0] at k3
      have hw := hB.2.2.1 i k2
      rw [hw.1] at k3
      rcases hw.2.2.1 with w | w
      · rw [w] at k3
        exact absurd k3 (by decide)
      · rw [w] at k3
        exact absurd k3 (by decide)
    · rw [e2 0 r e]
      exact ⟨k1, k2, k3, k4⟩
  · rw [hS.1 i hi]
    exact sI_c (fun k hk => by rw [e1 6 _ (by decide)])
  · rw [e1 2 _ (by decide), hS.2 r hr]
    exact sI_c (fun k hk => by rw [e1 6 _ (by decide)])
end STEPS
