section SIMS
variable {tt n q : Nat} {B R M : Nat → Nat → Int32} {td : Int32}
/-- what is paid back -/
def Rq4 (R : Nat → Nat → Int32) : Prop := ∀ r, r < 30 → 0 ≤ (R 4 r).toInt ∧ (R 4 r = 0 ∨ R 3 r = 0)
def Rl2 (tt : Nat) (B R : Nat → Nat → Int32) (td : Int32) (M : Nat → Nat → Int32) (n q : Nat) : Prop := Rel tt B R td M n q ∧ Rq4 R
theorem rel_t {tt' : Nat} (h : Rel tt B R td M n q) (ht : tt ≤ tt') : Rel tt' B R td M n q := by
  obtain ⟨⟨h1, h2, h3, h4, h5, h6, h7⟩, h8⟩ := h
  exact ⟨⟨h1, h2, h3, h4, h5, by omega, h7⟩, h8⟩
theorem rel_0 (h : Rel tt B R td M n q) {x : Int32} : Rel tt B R td (pt M 0 0 x) n q := rel_M (fun k i h0 _ => pt_o (fun z => h0 z.1)) h
theorem rl_0 (h : Rl2 tt B R td M n q) {x : Int32} : Rl2 tt B R td (pt M 0 0 x) n q := ⟨rel_0 h.1, h.2⟩
theorem rl_t {tt' : Nat} (h : Rl2 tt B R td M n q) (ht : tt ≤ tt') : Rl2 tt' B R td M n q := ⟨rel_t h.1 ht, h.2⟩
/-- the discount of a bill -/
theorem dcO_I {am rt : Int32} (h3 : 1 ≤ am.toInt) (h4 : am.toInt ≤ 1000000) (h7 : 0 ≤ rt.toInt) (h8 : rt.toInt ≤ 10000) : 0 ≤ (dcO am rt).toInt ∧ (dcO am rt).toInt ≤ am.toInt := by
  have bm : ∀ w : Int, -9223372036854775808 ≤ w → w < 9223372036854775808 → w.bmod (2 ^ 64) = w := fun w h1 h2 => by rw [Int.bmod_eq_of_le (by omega) (by omega)]
  have p0 : 0 ≤ am.toInt * rt.toInt := Int.mul_nonneg (by omega) h7
  have p1 : am.toInt * rt.toInt ≤ am.toInt * 10000 := Int.mul_le_mul_of_nonneg_left h8 (by omega)
  have e1 : (am.toInt64 * rt.toInt64).toInt = am.toInt * rt.toInt := by rw [Int64.toInt_mul, x64, x64, bm _ (by omega) (by omega)]
  have e2 : (am.toInt64 * rt.toInt64 / 10000).toInt = am.toInt * rt.toInt / 10000 := by
    rw [Int64.toInt_div, e1, show (10000 : Int64).toInt = 10000 by decide, Int.tdiv_eq_ediv_of_nonneg p0, bm _ (by omega) (by omega)]
  have e3 : (dcO am rt).toInt = am.toInt * rt.toInt / 10000 := by
    unfold dcO
    rw [Int64.toInt_toInt32, e2, fb_bmod (by omega) (by omega)]
  rw [e3]
  omega
theorem fb_le {x : Int32} {k : Int} {y : Int32} (h : x ≤ y) (e : y.toInt = k) : x.toInt ≤ k := by have := leI.mp h; omega
theorem fb_nl {x : Int32} {k : Int} {y : Int32} (h : ¬ x < y) (e : y.toInt = k) : k ≤ x.toInt := by have := mt ltI.mpr h; omega
/-- a bill is entered -/
theorem sim_bill {cu am rf rt dy : Int32} (h : Rl2 tt B R td M n q) (hn : n < 40) (ht : tt ≤ 100000) (h1 : ¬ cu < 0) (h3 : ¬ am < 1) (h4 : am ≤ 1000000) (h7 : ¬ rt < 0) (h8 : rt ≤ 10000) (h9 : ¬ dy < 0) (h10 : dy ≤ 90) :
    Rl2 tt (addB B n cu am rf (dcO am rt) (td + dy)) R td (mbil M n cu am rf rt dy) (n + 1) q := by
  obtain ⟨⟨hc, hd, hr, hp, hs⟩, hq⟩ := h
  have h3 := fb_nl h3 i1
  have h4 := fb_le h4 (show (1000000 : Int32).toInt = 1000000 by decide)
  have h7 := fb_nl h7 i0
  have h8 := fb_le h8 (show (10000 : Int32).toInt = 10000 by decide)
  have h9 := fb_nl h9 i0
  have h10 := fb_le h10 (show (90 : Int32).toInt = 90 by decide)
  obtain ⟨d0, d1⟩ := dcO_I h3 h4 h7 h8
  obtain ⟨c1, c2, c3, c4, c5, c6, c7, c8, c9⟩ := hc
  have b : ∀ k i, addB B n cu am rf (dcO am rt) (td + dy) k i = if k = 11 ∧ i = 0 then nI (n + 1) else if k = 9 ∧ i = n then -1 else if k = 7 ∧ i = n then -1 else if k = 4 ∧ i = n then td + dy else if k = 3 ∧ i = n then dcO am rt else if k = 2 ∧ i = n then rf else if k = 1 ∧ i = n then am else if k = 0 ∧ i = n then cu else B k i := fun k i => by simp only [addB, pt_at]
  have m : ∀ k i, mbil M n cu am rf rt dy k i = if k = 2 ∧ i = 0 then nI (n + 1) else if k = 13 ∧ i = n then -1 else if k = 11 ∧ i = n then -1 else if k = 8 ∧ i = n then dy else if k = 7 ∧ i = n then rt else if k = 6 ∧ i = n then M 1 0 else if k = 5 ∧ i = n then rf else if k = 4 ∧ i = n then am else if k = 3 ∧ i = n then cu else if k = 0 ∧ i = 0 then 0 else M k i := fun k i => by simp only [mbil, pt_at]
  refine ⟨⟨⟨?_, ?_, by omega, ?_, c5, c6, ?_, ?_, ?_⟩, ?_, ⟨?_, hr.2.1, hr.2.2.1, ?_⟩, ?_, ⟨hs.1, ?_, hs.2.2⟩⟩, hq⟩
  · simp [b]
  · simp [m]
  · simp [m, c4]
  · intro i hi
    by_cases z : i = n
    · subst z
      have g4 : (M 1 0).toInt = td.toInt := by rw [c4]
      simp only [b, m, dsc]
      simp [c4]
      exact ⟨rfl, by omega, by omega, by omega, by omega, by omega⟩
    · have := c7 i (by omega)
      simp only [b, m, dsc, z]
      simpa [dsc] using this
  · intro i j hij hj
    by_cases z : j = n
    · subst z
      by_cases w : i = j
      · subst w; exact Int32.le_refl _
      · have := (c7 i (by omega)).2.2.2.2.2.2.2.2.2.2
        simp [m, w, c4]
        exact leI.mpr this
    · have := c8 i j hij (by omega)
      have w : ¬ i = n := by omega
      simpa [m, z, w] using this
  · intro i hi
    by_cases z : i = n
    · subst z
      simp [m]
      intro g
      rw [g] at h1
      exact h1 (by decide)
    · have := c9 i (by omega)
      simpa [m, z] using this
  · intro i hi
    have g := hd i hi
    by_cases z : i = n
    · subst z
      obtain ⟨⟨g1, g2, g3, g4, g5⟩, g6, g7, g8, g9⟩ := g
      have g8 := g8 (Nat.le_refl _)
      have e6 : B 6 i = 0 := eqI (by rw [i0]; exact g8.2.1)
      simp only [b, m]
      simp
      refine ⟨⟨g1, g2, g3, g4⟩, ⟨by omega, by omega, by omega, by omega⟩, by omega, fun w => by omega, Or.inl (by omega)⟩
    · obtain ⟨g1, g6, g7, g8, g9⟩ := g
      simp only [b, m]
      simp [z]
      exact ⟨g1, g6, fun w => g7 (by omega), fun w => g8 (by omega), fun w => g9 (by omega)⟩
  · exact hr.1
  · intro r hr3
    have := hr.2.2.2 r hr3
    simpa [m] using this
  · intro r i hr3 hi
    obtain ⟨g1, g2, g3, g4, g5, g6, g7, g8⟩ := hp r i hr3 hi
    have e11 : mbil M n cu am rf rt dy 11 i = if i = n then -1 else M 11 i := by simp [m]
    have e13 : mbil M n cu am rf rt dy 13 i = if i = n then -1 else M 13 i := by simp [m]
    have e21 : mbil M n cu am rf rt dy 21 (40 * r + i) = M 21 (40 * r + i) := by simp [m]
    have e22 : mbil M n cu am rf rt dy 22 (40 * r + i) = M 22 (40 * r + i) := by simp [m]
    rw [e11, e13, e21, e22]
    refine ⟨g1, g2, g3, fun w => g4 (by omega), g5, g6, fun w1 w2 => ?_, fun w1 w2 => ?_⟩
    · by_cases z : i = n
      · rw [if_pos z] at w2
        exact absurd w2.symm (nI_m1 (by omega))
      · rw [if_neg z] at w2
        exact g7 (by omega) w2
    · by_cases z : i = n
      · rw [if_pos z] at w2
        exact absurd w2.symm (nI_m1 (by omega))
      · rw [if_neg z] at w2
        exact g8 (by omega) w2
  · intro i hi
    have := hs.2.1 i hi
    simpa [b] using this
/-- a receipt is entered -/
theorem sim_rc0 {cu am : Int32} (h : Rl2 tt B R td M n q) (hq3 : q < 30) (h3 : ¬ am < 1) : Rl2 tt B (addR R q cu am) td (mrc0 M q cu am) n (q + 1) ∧ addR R q cu am 5 q = 0 := by
  obtain ⟨⟨hc, hd, hr, hp, hs⟩, hq⟩ := h
  have h3 := fb_nl h3 i1
  have r : ∀ k i, addR R q cu am k i = if k = 8 ∧ i = 0 then nI (q + 1) else if k = 3 ∧ i = q then am else if k = 1 ∧ i = q then am else if k = 0 ∧ i = q then cu else R k i := fun k i => by simp only [addR, pt_at]
  have m : ∀ k i, mrc0 M q cu am k i = if k = 18 ∧ i = q then am else if k = 17 ∧ i = q then cu else if k = 16 ∧ i = q then am else if k = 15 ∧ i = 0 then nI (q + 1) else if k = 0 ∧ i = 0 then 0 else M k i := fun k i => by simp only [mrc0, pt_at]
  obtain ⟨z2, z4, z5⟩ := (hr.2.2.2 q hq3).2.2.2.2.2 (Nat.le_refl _)
  refine ⟨⟨⟨?_, ?_, ⟨by simp [r], by simp [m], by omega, ?_⟩, ?_, ?_⟩, ?_⟩, by simp [r, z5]⟩
  · have : RC tt B td (mrc0 M q cu am) n ↔ RC tt B td M n := by unfold RC dsc; simp [m]
    exact this.mpr hc
  · have : RD B (mrc0 M q cu am) n ↔ RD B M n := by unfold RD; simp [m]
    exact this.mpr hd
  · intro r' hr3
    obtain ⟨⟨g1, g2, g3, g4, g5⟩, g6, g7, g8, g9, g10⟩ := hr.2.2.2 r' hr3
    by_cases z : r' = q
    · subst z
      simp only [r, m]
      simp
      refine ⟨⟨g4, g5⟩, by omega, g7, fun _ => ?_, fun w => absurd z5 w, fun w => by omega⟩
      rw [z2, z4]
      grind
    · simp only [r, m]
      simp [z]
      exact ⟨⟨g1, g2, g3, g4, g5⟩, g6, g7, g8, g9, fun w => g10 (by omega)⟩
  · intro r' b hr3 hb
    obtain ⟨g1, g2, g3, g4, g5, g6, g7, g8⟩ := hp r' b hr3 hb
    simp only [r, m]
    simp
    exact ⟨g1, g2, g3, fun w => g4 (by omega), g5, g6, g7, g8⟩
  · have : RS B (addR R q cu am) ↔ RS B R := by unfold RS; simp [r]
    exact this.mpr hs
  · intro r' hr3
    have := hq r' hr3
    by_cases z : r' = q
    · subst z
      simp [r, z4]
    · simpa [r, z] using this
end SIMS
