/-! What the law checks of a desk. -/
section HOLD
variable {B R : TBL} {n q : Nat} {td : Int32} {mm ww : Nat → Int32}
theorem h_P1 (h : RI R q 99) : ∀ {m : Nat}, m ≤ q → l_sum (R 1) m = l_sum (R 2) m + l_sum (R 3) m + l_sum (R 4) m + bsm R m
  | 0, _ => rfl
  | m + 1, hm => by
    have ih := h_P1 h (m := m) (by omega)
    obtain ⟨f1, f2, f3, f4, f5, f6, f7, f8, f9, f10, f11⟩ := h.2.2.2.1 m (by omega)
    have hq := h.2.1
    rw [l_sum, l_sum, l_sum, l_sum, bsm, ih]
    rcases f1 with e | e
    · have h1 : R 1 m = R 2 m + R 3 m + R 4 m := eqI (by
        have := f10 (by omega) e
        rw [fb_addI, fb_addI] <;> (try rw [fb_addI]) <;> omega)
      rw [if_pos e, h1]
      grind
    · obtain ⟨z1, z2, z3⟩ := f11 e
      rw [if_neg (by rw [e]; decide), z1, z2, z3]
      grind
theorem h_P6 {cu : Int32} (h : ∀ k, k < n → B 0 k = ww k) : ∀ {m : Nat}, m ≤ n → oof B cu m = l_sum (fun k => if ww k = cu then opn B k else 0) m
  | 0, _ => rfl
  | m + 1, hm => by
    rw [oof, l_sum, h_P6 h (m := m) (by omega), h m (by omega)]
    split
    · rfl
    · grind
theorem b5_le (h : BI B n q mm ww) {i : Nat} (hi : i < 40) : 0 ≤ (B 5 i).toInt ∧ (B 5 i).toInt ≤ 10000 := by
  obtain ⟨b1, b2, b3, b4⟩ := h
  obtain ⟨c1, c2, c3, c4, c5, c6⟩ := b4 i hi
  by_cases w : i < n
  · have := c5 w
    obtain ⟨d1, d2, d3, d4, d5, d6, d7, d8⟩ := b3 i w
    rw [← d2] at d5
    omega
  · obtain ⟨z1, -⟩ := c6 (by omega)
    rw [z1, i0]
    omega
theorem inv_holds (h : Inv B R n q mm ww) : HOk B R td n q mm ww := by
  obtain ⟨hB, hR, hX, hS⟩ := id h
  have hn := hB.2.1
  have hq := hR.2.1
  refine ⟨h_P1 hR (Nat.le_refl _), fun k j hk hj => ?_, fun k hk => ?_, fun k hk => ?_, fun j hj => ?_, fun cc _ => h_P6 (fun k hk => (hB.2.2.1 k hk).1) (Nat.le_refl _), ?_⟩
  · obtain ⟨g1, g2, g3⟩ := hX j k (by omega) (by omega)
    refine ⟨fun z => by rw [ltI, i0] at z; omega, ?_⟩
    by_cases w : R 7 (40 * j + k) = 0
    · exact Or.inl (g2 w)
    · obtain ⟨-, -, k3, k4⟩ := g3 w
      exact Or.inr ⟨k3.trans (hB.2.2.1 k hk).1, k4⟩
  · have e1 : sI (fun r => (R 6 (40 * r + k)).toInt) 30 = sI (fun r => (R 6 (40 * r + k)).toInt) q := sI_t hq (fun r h1 h2 => by
      obtain ⟨g1, g2, g3⟩ := hX r k h2 (by omega)
      have : R 7 (40 * r + k) = 0 := Classical.byContradiction fun z => absurd (g3 z).1 (by omega)
      rw [g2 this, i0])
    have e2 := hS.1 k (by omega)
    have hb := b5_le hB (show k < 40 by omega)
    have e3 := ls_I (f := fun j => R 6 (40 * j + k)) (n := q) (fun r hr => (hX r k (by omega) (by omega)).1) (by omega)
    exact eqI (by rw [e3, e2, e1])
  · have ho := opn_I hB hk
    have hd := due_I (td := td) hB hk
    obtain ⟨c1, c2, c3, c4, c5, c6⟩ := hB.2.2.2 k (by omega)
    obtain ⟨d1, d2, d3, d4, d5, d6, d7, d8⟩ := hB.2.2.1 k hk
    refine ⟨fun z => ?_, fun z => ?_, fun z => ?_, fun z => ?_, ?_, fun z => ?_, ?_, ?_⟩
    · rw [ltI, i0] at z
      omega
    · rw [ltI, i0] at z
      omega
    · rw [ltI, i0] at z
      omega
    · rw [ltI, i0] at z
      omega
    · rw [← d2]
      unfold opn
      grind
    · rw [ltI, i0] at z
      omega
    · rw [leI]
      omega
    · rcases hd.2.2 with ⟨g1, -⟩ | ⟨-, g2⟩
      · exact Or.inl (g1.trans d2)
      · exact Or.inr g2
  · obtain ⟨f1, f2, f3, f4, f5, f6, f7, f8, f9, f10, f11⟩ := hR.2.2.2.1 j hj
    refine ⟨fun z => by rw [ltI, i0] at z; omega, ?_⟩
    rcases f1 with e | e
    · exact Or.inl e
    · exact Or.inr (f11 e).2.1
  · have e1 : sI (fun b => (B 5 b).toInt) 40 = sI (fun b => (B 5 b).toInt) n := sI_t hn (fun b h1 h2 => by rw [((hB.2.2.2 b h2).2.2.2.2.2 h1).1, i0])
    have e2 : sI (fun r => (R 2 r).toInt) 30 = sI (fun r => (R 2 r).toInt) q := sI_t hq (fun r h1 h2 => by rw [(hR.2.2.2.2 r h2 h1).1, i0])
    have e3 : sI (fun b => (B 5 b).toInt) 40 = sI (fun r => (R 2 r).toInt) 30 := by
      rw [sI_c (g := fun b => sI (fun r => (R 6 (40 * r + b)).toInt) 30) (fun b hb => hS.1 b hb), sI_c (f := fun r => (R 2 r).toInt) (g := fun r => sI (fun b => (R 6 (40 * r + b)).toInt) 40) (fun r hr => hS.2 r hr)]
      exact sI_s (f := fun r b => (R 6 (40 * r + b)).toInt)
    have b1 := sI_b (f := fun b => (B 5 b).toInt) (c := 10000) (n := n) (fun k hk => (b5_le hB (by omega)).2)
    have b2 := sI_b (f := fun r => (R 2 r).toInt) (c := 10000) (n := q) (fun r hr => by
      obtain ⟨f1, f2, f3, f4, f5, f6, f7, f8, f9, f10, f11⟩ := hR.2.2.2.1 r hr
      omega)
    have q1 := ls_I (f := B 5) (n := n) (fun k hk => (b5_le hB (by omega)).1) (by omega)
    have q2 := ls_I (f := R 2) (n := q) (fun r hr => by
      obtain ⟨f1, f2, f3, f4, f5, f6, f7, f8, f9, f10, f11⟩ := hR.2.2.2.1 r hr
      omega) (by omega)
    exact eqI (by rw [q1, q2, ← e1, ← e2, e3])
end HOLD
