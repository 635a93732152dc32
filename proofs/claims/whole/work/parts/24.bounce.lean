section SIMB
variable {tt n q : Nat} {B R M : Nat → Nat → Int32} {td : Int32}
theorem und_at {i k j : Nat} {rv sm : Int32} : und B i rv sm k j = if k = 5 ∧ j = i then B 5 i - sm else if k = 6 ∧ j = i then (if B 7 i = rv then 0 else B 6 i) else if k = 7 ∧ j = i then (if B 7 i = rv then -1 else B 7 i) else if k = 8 ∧ j = i then (if B 9 i = rv then 0 else B 8 i) else if k = 9 ∧ j = i then (if B 9 i = rv then -1 else B 9 i) else B k j := by
  have e9 : und1 B i rv sm 9 i = B 9 i := by
    unfold und1
    split <;> simp [pt_at]
  unfold und und2
  rw [e9]
  by_cases y : j = i
  · subst y
    by_cases z : B 9 j = rv
    · rw [if_pos z]
      unfold edD und1
      rw [if_pos rfl]
      by_cases w : B 7 j = rv
      · simp only [if_pos w, if_pos z, pt_at]
        grind
      · simp only [if_neg w, if_pos z, pt_at]
        grind
    · rw [if_neg z]
      unfold und1
      by_cases w : B 7 j = rv
      · simp only [if_pos w, if_neg z, pt_at]
        grind
      · simp only [if_neg w, if_neg z, pt_at]
        grind
  · by_cases z : B 9 i = rv
    · rw [if_pos z]
      unfold edD und1
      rw [if_pos rfl]
      split <;> simp [pt_at, y]
    · rw [if_neg z]
      unfold und1
      split <;> simp [pt_at, y]
theorem mbs_at {rc i k j : Nat} : mbs M rc i k j = if k = 9 ∧ j = i then M 9 i - M 21 (40 * rc + i) else if k = 21 ∧ j = 40 * rc + i then 0 else if k = 10 ∧ j = i then (if M 11 i = nI rc then 0 else M 10 i) else if k = 11 ∧ j = i then (if M 11 i = nI rc then -1 else M 11 i) else if k = 12 ∧ j = i then (if M 13 i = nI rc then 0 else M 12 i) else if k = 13 ∧ j = i then (if M 13 i = nI rc then -1 else M 13 i) else M k j := by
  have e11 : mb1 M rc i 11 i = M 11 i := by simp [mb1, pt_at]
  have e13 : mb2 (mb1 M rc i) rc i 13 i = M 13 i := by
    unfold mb2
    split <;> simp [mb1, pt_at]
  unfold mbs mb3
  rw [e13]
  by_cases z : M 13 i = nI rc
  · rw [if_pos z]
    unfold mb2
    rw [e11]
    by_cases w : M 11 i = nI rc
    · simp only [if_pos w, if_pos z, mb1, pt_at]
      grind
    · simp only [if_neg w, if_pos z, mb1, pt_at]
      grind
  · rw [if_neg z]
    unfold mb2
    rw [e11]
    by_cases w : M 11 i = nI rc
    · simp only [if_pos w, if_neg z, mb1, pt_at]
      grind
    · simp only [if_neg w, if_neg z, mb1, pt_at]
      grind
/-- the receipts, while receipt rc is being undone -/
def RRb (R M : Nat → Nat → Int32) (q rc : Nat) : Prop := R 8 0 = nI q ∧ M 15 0 = nI q ∧ q ≤ 30 ∧ ∀ r, r < 30 →
  (R 0 r = M 17 r ∧ R 1 r = M 16 r ∧ R 3 r = M 18 r ∧ R 4 r = M 19 r ∧ R 5 r = M 20 r) ∧ 0 ≤ (R 3 r).toInt ∧ (R 5 r = 0 ∨ R 5 r = 1) ∧
  (r ≠ rc → R 5 r = 0 → R 1 r = R 2 r + R 3 r + R 4 r) ∧ (¬ R 5 r = 0 → R 2 r = 0 ∧ R 3 r = 0 ∧ R 4 r = 0) ∧ (q ≤ r → R 2 r = 0 ∧ R 4 r = 0 ∧ R 5 r = 0)
def RPb (R M : Nat → Nat → Int32) (n q rc i : Nat) : Prop := ∀ r b, r < 30 → b < 40 →
  R 6 (40 * r + b) = M 21 (40 * r + b) ∧ 0 ≤ (R 6 (40 * r + b)).toInt ∧ (R 7 (40 * r + b) = 0 → R 6 (40 * r + b) = 0) ∧ ((q ≤ r ∨ n ≤ b) → R 7 (40 * r + b) = 0 ∧ M 22 (40 * r + b) = 0) ∧
  ((r ≠ rc ∨ i ≤ b) → R 5 r = 0 → R 7 (40 * r + b) = M 22 (40 * r + b)) ∧ (¬ R 5 r = 0 → R 7 (40 * r + b) = 0) ∧ (b < n → M 11 b = nI r → R 7 (40 * r + b) = 1) ∧ (b < n → M 13 b = nI r → R 7 (40 * r + b) = 1) ∧ (r = rc → b < i → R 7 (40 * r + b) = 0)
def RB (tt : Nat) (B R : Nat → Nat → Int32) (td : Int32) (M : Nat → Nat → Int32) (n q rc i : Nat) : Prop := RC tt B td M n ∧ RD B M n ∧ RRb R M q rc ∧ RPb R M n q rc i ∧ RS B R
/-- one bill of the receipt is undone -/
theorem sim_u {rc i : Nat} (h : RB tt B R td M n q rc i) (hrc : rc < q) (hi : i < n) (h5 : R 5 rc = 0) (h7 : ¬ R 7 (40 * rc + i) = 0) :
    RB tt (und B i (nI rc) (R 6 (40 * rc + i))) (drpP R rc i) td (mbs M rc i) n q rc (i + 1) := by
  obtain ⟨hc, hd, hr, hp, hs⟩ := h
  have hn := hc.2.2.1
  have hq30 := hr.2.2.1
  have r : ∀ k j, drpP R rc i k j = if k = 7 ∧ j = 40 * rc + i then 0 else if k = 6 ∧ j = 40 * rc + i then 0 else if k = 2 ∧ j = rc then R 2 rc - R 6 (40 * rc + i) else R k j := fun k j => by simp only [drpP, pt_at]
  have rr6 : ∀ j, drpP R rc i 6 j = if j = 40 * rc + i then 0 else R 6 j := fun j => by simp [r]
  have hcol := hs.2.1 i (by omega)
  obtain ⟨p1, p2, p3, p4, p5, p6, p7, p8, p9⟩ := hp rc i (by omega) (by omega)
  have hge : (R 6 (40 * rc + i)).toInt ≤ (B 5 i).toInt := by
    rw [hcol]
    exact sI_g (f := fun r => (R 6 (40 * r + i)).toInt) (fun k hk => (hp k i hk (by omega)).2.1) (by omega)
  obtain ⟨⟨d1, d2, d3, d4, d5⟩, ⟨d6, d7, d8, d9⟩, d10, d11, d12⟩ := hd i (by omega)
  have d10 := d10 hi
  have d12 := d12 hi
  have rB := fb_rng (B 5 i)
  have e5 : (B 5 i - R 6 (40 * rc + i)).toInt = (B 5 i).toInt - (R 6 (40 * rc + i)).toInt := fb_subI (by omega) (by omega)
  have b5 : ∀ j, und B i (nI rc) (R 6 (40 * rc + i)) 5 j = if j = i then B 5 i - R 6 (40 * rc + i) else B 5 j := fun j => by simp [und_at]
  refine ⟨?_, ?_, ⟨by simpa [r] using hr.1, by simpa [mbs_at] using hr.2.1, hq30, ?_⟩, ?_, ⟨?_, ?_, ?_⟩⟩
  · have : RC tt (und B i (nI rc) (R 6 (40 * rc + i))) td (mbs M rc i) n ↔ RC tt B td M n := by unfold RC dsc; simp [mbs_at, und_at]
    exact this.mpr hc
  · intro j hj
    by_cases z : j = i
    · subst z
      have u1 : und B j (nI rc) (R 6 (40 * rc + j)) 1 j = B 1 j := by simp [und_at]
      have u6 : und B j (nI rc) (R 6 (40 * rc + j)) 6 j = if B 7 j = nI rc then 0 else B 6 j := by simp [und_at]
      have u7 : und B j (nI rc) (R 6 (40 * rc + j)) 7 j = if B 7 j = nI rc then -1 else B 7 j := by simp [und_at]
      have u8 : und B j (nI rc) (R 6 (40 * rc + j)) 8 j = if B 9 j = nI rc then 0 else B 8 j := by simp [und_at]
      have u9 : und B j (nI rc) (R 6 (40 * rc + j)) 9 j = if B 9 j = nI rc then -1 else B 9 j := by simp [und_at]
      have u10 : und B j (nI rc) (R 6 (40 * rc + j)) 10 j = B 10 j := by simp [und_at]
      have v9 : mbs M rc j 9 j = M 9 j - M 21 (40 * rc + j) := by simp [mbs_at]
      have v10 : mbs M rc j 10 j = if M 11 j = nI rc then 0 else M 10 j := by simp [mbs_at]
      have v11 : mbs M rc j 11 j = if M 11 j = nI rc then -1 else M 11 j := by simp [mbs_at]
      have v12 : mbs M rc j 12 j = if M 13 j = nI rc then 0 else M 12 j := by simp [mbs_at]
      have v13 : mbs M rc j 13 j = if M 13 j = nI rc then -1 else M 13 j := by simp [mbs_at]
      have v14 : mbs M rc j 14 j = M 14 j := by simp [mbs_at]
      have u5 := b5 j
      rw [if_pos rfl] at u5
      rw [u1, u5, u6, u7, u8, u9, u10, v9, v10, v11, v12, v13, v14, ← d5]
      have k6 : (if B 7 j = nI rc then (0 : Int32) else B 6 j) = (if M 11 j = nI rc then 0 else M 10 j) ∧ 0 ≤ (if B 7 j = nI rc then (0 : Int32) else B 6 j).toInt ∧ (if B 7 j = nI rc then (0 : Int32) else B 6 j).toInt ≤ (B 6 j).toInt ∧
          (((if B 7 j = nI rc then (0 : Int32) else B 6 j).toInt = 0 ∧ (if M 11 j = nI rc then -1 else M 11 j) = -1) ∨ (0 < (if B 7 j = nI rc then (0 : Int32) else B 6 j).toInt ∧ (if M 11 j = nI rc then -1 else M 11 j) = (if B 7 j = nI rc then -1 else B 7 j))) := by
        rcases d12 with ⟨w1, w2⟩ | ⟨w1, w2⟩
        · have e0 : B 6 j = 0 := eqI (by rw [w1, i0])
          have w3 : ¬ M 11 j = nI rc := fun g => nI_m1 (show rc < 2 ^ 31 by omega) (g.symm.trans w2)
          rw [if_neg w3, if_neg w3, ← d2, e0]
          have e1 : (if B 7 j = nI rc then (0 : Int32) else 0) = 0 := by split <;> rfl
          rw [e1]
          exact ⟨rfl, by decide, by decide, Or.inl ⟨by decide, w2⟩⟩
        · rw [w2]
          by_cases y : B 7 j = nI rc
          · simp only [if_pos y]
            exact ⟨trivial, by decide, by rw [i0]; omega, Or.inl ⟨by decide, trivial⟩⟩
          · simp only [if_neg y]
            exact ⟨d2, d7, Int.le_refl _, Or.inr ⟨w1, trivial⟩⟩
      have k8 : 0 ≤ (if B 9 j = nI rc then (0 : Int32) else B 8 j).toInt ∧ (if B 9 j = nI rc then (0 : Int32) else B 8 j).toInt ≤ (B 8 j).toInt := by
        split
        · exact ⟨by decide, d8⟩
        · exact ⟨d8, Int.le_refl _⟩
      obtain ⟨k6a, k6b, k6c, k6d⟩ := k6
      rw [e5]
      refine ⟨⟨by rw [d1, p1], k6a, by rw [d3], d4, rfl⟩, ⟨by omega, k6b, k8.1, d9⟩, fun _ => by omega, fun w => by omega, fun _ => k6d⟩
    · have g := hd j hj
      simp only [und_at, mbs_at]
      simp [z]
      obtain ⟨g1, g2, g3, g4, g5⟩ := g
      exact ⟨g1, g2, g3, g4, g5⟩
  · intro r' hr3
    obtain ⟨⟨g1, g2, g3, g4, g5⟩, g6, g7, g8, g9, g10⟩ := hr.2.2.2 r' hr3
    by_cases z : r' = rc
    · subst z
      simp only [r, mbs_at]
      simp
      exact ⟨⟨g1, g2, g3, g4, g5⟩, g6, g7, fun w => absurd h5 w, fun w => by omega⟩
    · simp only [r, mbs_at]
      simp [z]
      exact ⟨⟨g1, g2, g3, g4, g5⟩, g6, g7, g8 z, g9, g10⟩
  · intro r' b hr3 hb
    obtain ⟨g1, g2, g3, g4, g5, g6, g7, g8, g9⟩ := hp r' b hr3 hb
    have m21 : mbs M rc i 21 (40 * r' + b) = if 40 * r' + b = 40 * rc + i then 0 else M 21 (40 * r' + b) := by simp [mbs_at]
    have m22 : mbs M rc i 22 (40 * r' + b) = M 22 (40 * r' + b) := by simp [mbs_at]
    have m11 : mbs M rc i 11 b = if b = i then (if M 11 i = nI rc then -1 else M 11 i) else M 11 b := by simp [mbs_at]
    have m13 : mbs M rc i 13 b = if b = i then (if M 13 i = nI rc then -1 else M 13 i) else M 13 b := by simp [mbs_at]
    have r6 : drpP R rc i 6 (40 * r' + b) = if 40 * r' + b = 40 * rc + i then 0 else R 6 (40 * r' + b) := by simp [r]
    have r7 : drpP R rc i 7 (40 * r' + b) = if 40 * r' + b = 40 * rc + i then 0 else R 7 (40 * r' + b) := by simp [r]
    have r5 : drpP R rc i 5 r' = R 5 r' := by simp [r]
    rw [m21, m22, m11, m13, r6, r7, r5]
    by_cases z : 40 * r' + b = 40 * rc + i
    · have zr : r' = rc := by omega
      have zi : b = i := by omega
      subst zr; subst zi
      simp only [if_pos z, if_true]
      refine ⟨trivial, by decide, fun _ => trivial, fun w => by omega, fun w => by omega, fun _ => trivial, fun _ w => ?_, fun _ w => ?_, fun _ _ => trivial⟩
      · by_cases y : M 11 b = nI r'
        · rw [if_pos y] at w
          exact absurd w.symm (nI_m1 (by omega))
        · rw [if_neg y] at w
          exact absurd w y
      · by_cases y : M 13 b = nI r'
        · rw [if_pos y] at w
          exact absurd w.symm (nI_m1 (by omega))
        · rw [if_neg y] at w
          exact absurd w y
    · simp only [if_neg z]
      refine ⟨g1, g2, g3, g4, fun w => g5 (by omega), g6, fun w1 w2 => ?_, fun w1 w2 => ?_, fun w1 w2 => g9 w1 (by omega)⟩
      · by_cases zi : b = i
        · subst zi
          rw [if_pos rfl] at w2
          by_cases y : M 11 b = nI rc
          · rw [if_pos y] at w2
            exact absurd w2.symm (nI_m1 (by omega))
          · rw [if_neg y] at w2
            exact g7 w1 w2
        · rw [if_neg zi] at w2
          exact g7 w1 w2
      · by_cases zi : b = i
        · subst zi
          rw [if_pos rfl] at w2
          by_cases y : M 13 b = nI rc
          · rw [if_pos y] at w2
            exact absurd w2.symm (nI_m1 (by omega))
          · rw [if_neg y] at w2
            exact g8 w1 w2
        · rw [if_neg zi] at w2
          exact g8 w1 w2
  · exact drpP_z hs.1
  · intro b hb
    rw [b5]
    by_cases z : b = i
    · subst z
      rw [if_pos rfl, e5]
      rw [sI_u (f := fun r => (R 6 (40 * r + b)).toInt) (i := rc) (by omega) (fun k hk hne => by show (drpP R rc b 6 (40 * k + b)).toInt = (R 6 (40 * k + b)).toInt; rw [rr6, if_neg (by omega)])]
      have : drpP R rc b 6 (40 * rc + b) = 0 := by simp [r]
      rw [this, i0, ← hcol]
      omega
    · rw [if_neg z, hs.2.1 b hb]
      exact sI_c (fun k hk => by show (R 6 (40 * k + b)).toInt = (drpP R rc i 6 (40 * k + b)).toInt; rw [rr6, if_neg (by omega)])
  · intro r' hr3
    have r2 : drpP R rc i 2 r' = if r' = rc then R 2 rc - R 6 (40 * rc + i) else R 2 r' := by simp [r]
    rw [r2]
    by_cases z : r' = rc
    · subst z
      rw [if_pos rfl, ls_u (f := fun b => R 6 (40 * r' + b)) (i := i) (by omega) (fun k hk hne => by show drpP R r' i 6 (40 * r' + k) = R 6 (40 * r' + k); rw [rr6, if_neg (by omega)]), ← hs.2.2 r' hr3]
      have : drpP R r' i 6 (40 * r' + i) = 0 := by simp [r]
      rw [this]
      grind
    · rw [if_neg z, hs.2.2 r' hr3]
      exact ls_c (fun k hk => by show R 6 (40 * r' + k) = drpP R rc i 6 (40 * r' + k); rw [rr6, if_neg (by omega)])
end SIMB
