/-! A receipt that comes and goes. -/
section CAG
variable {ex : Nat} {B B' R R' E : TBL} {n q rc b : Nat} {td : Int32} {mm ww : Nat → Int32}
/-- how a bill stands against what it was before the receipt q came -/
def Tch (B0 B R : TBL) (q k : Nat) : Prop :=
  B 1 k = B0 1 k ∧ B 10 k = B0 10 k ∧ (B 5 k).toInt = (B0 5 k).toInt + (R 6 (40 * q + k)).toInt ∧ (R 7 (40 * q + k) = 0 → B 6 k = B0 6 k ∧ B 8 k = B0 8 k) ∧
  ((B 7 k = nI q ∧ (B0 6 k).toInt = 0) ∨ (¬ B 7 k = nI q ∧ B 6 k = B0 6 k)) ∧ (B 9 k = nI q ∨ B 8 k = B0 8 k)
def Fc (B0 : TBL) (n q : Nat) (mm ww : Nat → Int32) (am : Int32) (cu : Int32) (B R : TBL) : Prop :=
  Inv B R n (q + 1) mm ww ∧ R 0 q = cu ∧ R 5 q = 0 ∧ R 4 q = 0 ∧ R 1 q = am ∧ (∀ k, k < n → Tch B0 B R q k) ∧ am.toInt - (R 3 q).toInt ≤ sI (oI2 B0) n - sI (oI2 B) n ∧ (cu = -1 → R 3 q = am)
theorem dsp_o {v : Int32} (h : BI B n q mm ww) (hb : b < n) : oI2 (dsp B b v) b = 0 := by
  have ho := opn_I h hb
  have hb4 := h.2.2.2 b (by have := h.2.1; omega)
  have g := hb4.2.2.2.2.1 hb
  have e8 : (dsp B b v 8 b).toInt = (B 8 b).toInt + oI2 B b := by
    have : dsp B b v 8 b = B 8 b + opn B b := by simp [dsp, pt_at]
    rw [this, fb_addI, ho.1]
    · have := hb4.2.2.1
      omega
    · unfold oI2 at ho
      omega
  have e1 : ∀ k, k ≠ 8 → k ≠ 9 → dsp B b v k b = B k b := fun k h8 h9 => by
    unfold dsp
    rw [pt_o (by omega), pt_o (by omega)]
  unfold oI2
  rw [e8, e1 1 (by decide) (by decide), e1 5 (by decide) (by decide), e1 6 (by decide) (by decide), e1 10 (by decide) (by decide)]
  unfold oI2
  omega
theorem Fc_fam {B0 : TBL} {am : Int32} : Fam (Fc B0 n q mm ww am) n q td ww := by
  refine ⟨fun cu B R h => h.2.1, fun cu B R b h hb => (h.1.1.2.2.1 b hb).1, fun cu B R b h hb e => ?_, fun cu B R b h hb h7 => ?_, fun B R v h hv => ?_⟩
  · obtain ⟨h1, h2, h3, h4, h5, h6, h7, h8⟩ := h
    obtain ⟨s, hs⟩ := pay_s (td := td) h1 (Nat.lt_succ_self q) hb
    have hv := PayS.inv h1 hs (Nat.lt_succ_self q) hb h3 (by rw [h2, (h1.1.2.2.1 b hb).1, e])
    obtain ⟨⟨p1, p2⟩, ⟨p3, p4, p5⟩, ⟨s0, s1, s2, s3, s4, s5, s6⟩, p6, p7, p8, p9⟩ := hs
    refine ⟨hv, (p3 0 q (by decide) (by decide) (by decide) (by decide)).trans h2, (p3 5 q (by decide) (by decide) (by decide) (by decide)).trans h3, (p3 4 q (by decide) (by decide) (by decide) (by decide)).trans h4, (p3 1 q (by decide) (by decide) (by decide) (by decide)).trans h5, fun k hk => ?_, ?_, fun z => ?_⟩
    · obtain ⟨t1, t2, t3, t4, t5, t6⟩ := h6 k hk
      by_cases w : k = b
      · subst w
        refine ⟨(p2 1 k (by decide) (by decide) (by decide)).trans t1, (p2 10 k (by decide) (by decide) (by decide)).trans t2, by omega, fun z => absurd (z.symm.trans s6) (by decide), ?_, ?_⟩
        · rcases p6 with ⟨g1, g2⟩ | ⟨g1, g2, -, g4, -⟩
          · rw [g1, g2]
            exact t5
          · refine Or.inl ⟨g2, ?_⟩
            rcases t5 with ⟨-, k2⟩ | ⟨-, k2⟩
            · exact k2
            · rw [← k2]
              exact g4
        · rw [p2 9 k (by decide) (by decide) (by decide), p2 8 k (by decide) (by decide) (by decide)]
          exact t6
      · unfold Tch
        rw [p1 1 k w, p1 10 k w, p1 5 k w, p1 6 k w, p1 7 k w, p1 8 k w, p1 9 k w, p5 6 _ (by decide) (by omega), p5 7 _ (by decide) (by omega)]
        exact ⟨t1, t2, t3, t4, t5, t6⟩
    · rw [s4, sI_u (f := oI2 B) (g := oI2 (payB B R q b td)) hb (fun k _ hne => oI2_c (fun kk => p1 kk k hne))]
      omega
    · have := ww_r h1.1 hb
      rw [e, z, im1] at this
      omega
  · obtain ⟨h1, h2, h3, h4, h5, h6, h7', h8⟩ := h
    have e1 : ∀ k i, k ≠ 8 → k ≠ 9 → dsp B b (nI q) k i = B k i := fun k i h8 h9 => by
      unfold dsp
      rw [pt_o (by omega), pt_o (by omega)]
    have e2 : ∀ k i, i ≠ b → dsp B b (nI q) k i = B k i := fun k i hi => by
      unfold dsp
      rw [pt_o (by omega), pt_o (by omega)]
    refine ⟨dsp_inv h1 hb, h2, h3, h4, h5, fun k hk => ?_, ?_, h8⟩
    · obtain ⟨t1, t2, t3, t4, t5, t6⟩ := h6 k hk
      by_cases w : k = b
      · subst w
        refine ⟨(e1 1 k (by decide) (by decide)).trans t1, (e1 10 k (by decide) (by decide)).trans t2, by rw [e1 5 k (by decide) (by decide)]; exact t3, fun z => absurd (z.symm.trans h7) (by decide), by rw [e1 7 k (by decide) (by decide), e1 6 k (by decide) (by decide)]; exact t5, Or.inl ?_⟩
        simp [dsp, pt_at]
      · unfold Tch
        rw [e2 1 k w, e2 10 k w, e2 5 k w, e2 6 k w, e2 7 k w, e2 8 k w, e2 9 k w]
        exact ⟨t1, t2, t3, t4, t5, t6⟩
    · rw [sI_u (f := oI2 B) (g := oI2 (dsp B b (nI q))) hb (fun k _ hne => oI2_c (fun kk => e2 kk k hne)), dsp_o h1.1 hb]
      have := (opn_I h1.1 hb).2.1
      omega
  · obtain ⟨h1, h2, h3, h4, h5, h6, h7, h8⟩ := h
    have e1 : ∀ k i, k ≠ 0 → pt R 0 q v k i = R k i := fun k i hk => pt_o (by omega)
    refine ⟨setC_inv h1 (Nat.lt_succ_self q) h2 ?_, pt_s, (e1 5 q (by decide)).trans h3, (e1 4 q (by decide)).trans h4, (e1 1 q (by decide)).trans h5, fun k hk => ?_, by rw [e1 3 q (by decide)]; exact h7, fun _ => (e1 3 q (by decide)).trans (h8 rfl)⟩
    · rcases hv with e | ⟨b, hb, e⟩
      · rw [e, im1]
        omega
      · have := ww_r h1.1 hb
        rw [e]
        omega
    · unfold Tch
      rw [e1 6 _ (by decide), e1 7 _ (by decide)]
      exact h6 k hk
theorem Fc_0 {cu am : Int32} (h : Inv B R n q mm ww) (hq : q < 30) (hcu : -1 ≤ cu.toInt ∧ cu.toInt < 8) (ha : 0 ≤ am.toInt ∧ am.toInt ≤ 10000) : Fc B n q mm ww am cu B (addR R q cu am) := by
  have hn := h.1.2.1
  have hz := h.2.1.2.2.2.2 q hq (Nat.le_refl _)
  have e1 : ∀ k i, k ≠ 0 → k ≠ 1 → k ≠ 3 → k ≠ 8 → addR R q cu am k i = R k i := fun k i => addR_o
  refine ⟨addR_inv h hq hcu ha, addR_c.1, (e1 5 q (by decide) (by decide) (by decide) (by decide)).trans hz.2.2, (e1 4 q (by decide) (by decide) (by decide) (by decide)).trans hz.2.1, addR_c.2.1, fun k hk => ?_, by rw [addR_c.2.2]; omega, fun _ => addR_c.2.2⟩
  obtain ⟨g1, g2, g3⟩ := h.2.2.1 q k hq (by omega)
  have h7 : R 7 (40 * q + k) = 0 := Classical.byContradiction fun z => absurd (g3 z).1 (Nat.lt_irrefl _)
  unfold Tch
  rw [e1 6 _ (by decide) (by decide) (by decide) (by decide), e1 7 _ (by decide) (by decide) (by decide) (by decide), g2 h7, i0]
  refine ⟨rfl, rfl, by omega, fun _ => ⟨rfl, rfl⟩, Or.inr ⟨fun z => ?_, rfl⟩, Or.inr rfl⟩
  have := (h.1.2.2.1 k hk).2.2.2.2.2.2.2
  rw [z, nI_toInt (by omega)] at this
  omega
/-- the steps 2 and 3 leave no open bill of the customer, where something is left -/
theorem oth_end {cu : Int32} (h : Inx ex B R n q mm ww) (hrc : rc < q) (h0 : R 0 rc = cu) (h5 : R 5 rc = 0) (hc : ¬ cu = -1) (hp : 0 < ((othS B R E rc n td).2.1 3 rc).toInt) : ∀ b, b < n → ww b = cu → oI2 (othS B R E rc n td).1 b = 0 := by
  have hn := h.1.2.1
  unfold othS at hp ⊢
  rw [if_neg (by rw [h0]; exact hc)] at hp ⊢
  by_cases z : R 3 rc ≤ 0
  · rw [if_pos z] at hp ⊢
    rw [old_0 z] at hp
    rw [leI, i0] at z
    exact absurd hp (by show ¬ 0 < (R 3 rc).toInt; omega)
  · rw [if_neg z] at hp ⊢
    have h1 : Fz0 ex n q mm ww rc cu (exP (cesE B E (R 0 rc) (R 3 rc) td n) rc td n 3 0 B R).1 (exP (cesE B E (R 0 rc) (R 3 rc) td n) rc td n 3 0 B R).2 := by
      refine exP_g (ww := ww) (cu := cu) hn (fun pl hpl => ?_) (fun B R b h hb e => (Fz_fam (td := td) hrc).2.2.1 cu B R b h hb e) (by omega) ⟨h, h0, h5⟩
      rcases ces_g (B := B) (n := n) (td := td) (E := E) (cu := R 0 rc) (sm := R 3 rc) pl hpl with e | ⟨b, e1, e2, e3⟩
      · exact Or.inl e
      · exact Or.inr ⟨b, e1, e2, by rw [← (h.1.2.2.1 b e1).1, e3]; exact h0⟩
    rw [h1.2.1] at hp ⊢
    intro b hb hw
    exact old_end hrc (by omega) h1.1 h1.2.1 h1.2.2 hp b (Nat.zero_le _) (by omega) hw
theorem rcv_end {cu am rf : Int32} {B0 : TBL} (h : Fc B0 n q mm ww am cu B (addR R q cu am)) (hc : ¬ (rcvS B R E q cu am rf n td).2.1 0 q = -1) (hp : 0 < ((rcvS B R E q cu am rf n td).2.1 3 q).toInt) : ∀ b, b < n → ww b = (rcvS B R E q cu am rf n td).2.1 0 q → oI2 (rcvS B R E q cu am rf n td).1 b = 0 := by
  have hn := h.1.1.2.1
  unfold rcvS at hc hp ⊢
  by_cases z : rf = 0
  · rw [if_pos z] at hc hp ⊢
    have h2 := (Fc_fam (td := td)).oth (E := E) hn h
    rw [h2.2.1] at hc ⊢
    exact oth_end h.1 (Nat.lt_succ_self q) h.2.1 h.2.2.1 hc hp
  · rw [if_neg z] at hc hp ⊢
    obtain ⟨cu', -, h1⟩ := (Fc_fam (td := td)).nam (rf := rf) h
    have h2 := (Fc_fam (td := td)).oth (E := E) hn h1
    rw [h2.2.1] at hc ⊢
    exact oth_end h1.1 (Nat.lt_succ_self q) h1.2.1 h1.2.2.1 hc hp
/-- where no bill of the customer is open, the steps 2 and 3 do nothing -/
theorem ofL_n {cu : Int32} : ∀ {k i m : Nat} {E : TBL}, (∀ b, i ≤ b → b < i + k → ¬ (B 0 b = cu ∧ ¬ opn B b ≤ 0)) → ofL B cu td k i m E = (E, m)
  | 0, _, _, _, _ => rfl
  | k + 1, i, m, E, h => by
    rw [ofL, if_neg (h i (Nat.le_refl _) (by omega))]
    exact ofL_n (fun b h1 h2 => h b (by omega) (by omega))
theorem old_n {cu : Int32} : ∀ {k i : Nat}, (∀ b, i ≤ b → b < i + k → ¬ (B 0 b = cu ∧ ¬ opn B b ≤ 0)) → oldL rc cu td k i B R = (B, R)
  | 0, _, _ => rfl
  | k + 1, i, h => by
    rw [oldL, if_neg (h i (Nat.le_refl _) (by omega))]
    split
    · rfl
    · exact old_n (fun b h1 h2 => h b (by omega) (by omega))
theorem oth_n (h : ∀ b, b < n → ¬ (B 0 b = R 0 rc ∧ ¬ opn B b ≤ 0)) : (othS B R E rc n td).1 = B ∧ (othS B R E rc n td).2.1 = R := by
  unfold othS
  split
  · exact ⟨rfl, rfl⟩
  · split
    · rw [old_n (fun b _ hb => h b (by omega))]
      exact ⟨rfl, rfl⟩
    · have e1 : cesE B E (R 0 rc) (R 3 rc) td n = clrE E := by
        unfold cesE
        rw [ofL_n (fun b _ hb => h b (by omega))]
        rfl
      have e2 : exP (clrE E) rc td n 3 0 B R = (B, R) := by
        have c0 : clrE E 2 0 = -1 := by simp [clrE, pt_at]
        have c1 : clrE E 2 1 = -1 := by simp [clrE, pt_at]
        have c2 : clrE E 2 2 = -1 := by simp [clrE, pt_at]
        rw [exP, if_neg (fun z => z.1 (by rw [c0]; decide)), exP, if_neg (fun z => z.1 (by rw [c1]; decide)), exP, if_neg (fun z => z.1 (by rw [c2]; decide)), exP]
      rw [e1, e2]
      show (oldL rc (R 0 rc) td n 0 B R).1 = B ∧ (oldL rc (R 0 rc) td n 0 B R).2 = R
      rw [old_n (fun b _ hb => h b (by omega))]
      exact ⟨rfl, rfl⟩
/-- how many are undone -/
theorem bnc_c : ∀ {k i uu : Nat} {B R : TBL}, uu ≤ (bncL rc k i uu B R).1 ∧ (bncL rc k i uu B R).1 ≤ uu + k ∧ ((∃ b, i ≤ b ∧ b < i + k ∧ ¬ R 7 (40 * rc + b) = 0) → uu < (bncL rc k i uu B R).1)
  | 0, i, uu, B, R => ⟨Nat.le_refl _, Nat.le_refl _, fun ⟨b, h1, h2, _⟩ => absurd h1 (by omega)⟩
  | k + 1, i, uu, B, R => by
    rw [bncL]
    split
    · rename_i z
      obtain ⟨a1, a2, a3⟩ := bnc_c (k := k) (i := i + 1) (uu := uu) (B := B) (R := R)
      refine ⟨a1, by omega, fun ⟨b, h1, h2, h3⟩ => a3 ⟨b, ?_, by omega, h3⟩⟩
      have : b ≠ i := fun e => h3 (by rw [e]; exact z)
      omega
    · obtain ⟨a1, a2, a3⟩ := bnc_c (k := k) (i := i + 1) (uu := uu + 1) (B := und B i (nI rc) (R 6 (40 * rc + i))) (R := drpP R rc i)
      exact ⟨by omega, by omega, fun _ => by omega⟩
/-- how a bill stands when a receipt has bounced -/
def Undn (B R B3 : TBL) (rc b : Nat) : Prop :=
  (B3 5 b).toInt = (B 5 b).toInt - (R 6 (40 * rc + b)).toInt ∧ B3 1 b = B 1 b ∧ B3 10 b = B 10 b ∧ ((B 7 b = nI rc ∧ B3 6 b = 0) ∨ (¬ B 7 b = nI rc ∧ B3 6 b = B 6 b)) ∧ ((B 9 b = nI rc ∧ B3 8 b = 0) ∨ (¬ B 9 b = nI rc ∧ B3 8 b = B 8 b))
theorem bnc_k (hrc : rc < q) : ∀ {k i uu : Nat} {B R : TBL}, i + k ≤ n → Inx rc B R n q mm ww → R 5 rc = 0 →
    (∀ b kk, b < i → (bncL rc k i uu B R).2.1 kk b = B kk b) ∧ ∀ b, i ≤ b → b < i + k → (R 7 (40 * rc + b) = 0 → ∀ kk, (bncL rc k i uu B R).2.1 kk b = B kk b) ∧ (¬ R 7 (40 * rc + b) = 0 → Undn B R (bncL rc k i uu B R).2.1 rc b)
  | 0, i, uu, B, R, hk, h, h5 => ⟨fun _ _ _ => rfl, fun b h1 h2 => absurd h1 (by omega)⟩
  | k + 1, i, uu, B, R, hk, h, h5 => by
    rw [bncL]
    by_cases z : R 7 (40 * rc + i) = 0
    · rw [if_pos z]
      obtain ⟨a1, a2⟩ := bnc_k hrc (k := k) (i := i + 1) (uu := uu) (by omega) h h5
      refine ⟨fun b kk hb => a1 b kk (by omega), fun b h1 h2 => ?_⟩
      by_cases e : b = i
      · subst e
        exact ⟨fun _ kk => a1 b kk (by omega), fun w => absurd z w⟩
      · exact a2 b (by omega) (by omega)
    · rw [if_neg z]
      have hs := und_s h hrc (show i < n by omega)
      have hv := UndS.inv h hs hrc (by omega) h5
      obtain ⟨⟨p1, p2⟩, ⟨p3, p4, p5⟩, ⟨s1, s2, s3, s4⟩, p6, p7⟩ := hs
      obtain ⟨a1, a2⟩ := bnc_k hrc (k := k) (i := i + 1) (uu := uu + 1) (by omega) hv ((p3 5 rc (by decide) (by decide) (by decide)).trans h5)
      refine ⟨fun b kk hb => by rw [a1 b kk (by omega), p1 kk b (by omega)], fun b h1 h2 => ?_⟩
      by_cases e : b = i
      · subst e
        refine ⟨fun w => absurd w z, fun _ => ?_⟩
        unfold Undn
        rw [a1 b 5 (by omega), a1 b 1 (by omega), a1 b 10 (by omega), a1 b 6 (by omega), a1 b 8 (by omega)]
        refine ⟨s1, p2 1 b (by omega), p2 10 b (by omega), ?_, p7⟩
        rcases p6 with ⟨g1, g2, -⟩ | ⟨g1, g2, -⟩
        · exact Or.inl ⟨g1, g2⟩
        · exact Or.inr ⟨g1, g2⟩
      · obtain ⟨c1, c2⟩ := a2 b (by omega) (by omega)
        rw [p5 7 _ (by decide) (by omega)] at c1 c2
        refine ⟨fun w kk => by rw [c1 w kk, p1 kk b e], fun w => ?_⟩
        have c3 := c2 w
        unfold Undn at c3 ⊢
        rw [p1 5 b e, p1 1 b e, p1 10 b e, p1 6 b e, p1 7 b e, p1 8 b e, p1 9 b e, p5 6 _ (by decide) (by omega)] at c3
        exact c3
theorem b8_le (h : BI B n q mm ww) {i : Nat} (hi : i < n) : 0 ≤ (B 8 i).toInt ∧ (B 8 i).toInt ≤ 10000 := by
  obtain ⟨b1, b2, b3, b4⟩ := h
  obtain ⟨c1, c2, c3, c4, c5, c6⟩ := b4 i (by omega)
  have := c5 hi
  obtain ⟨d1, d2, d3, d4, d5, d6, d7, d8⟩ := b3 i hi
  rw [← d2] at d5
  omega
theorem ls_z {f : Nat → Int32} : ∀ {n : Nat}, (∀ k, k < n → f k = 0) → l_sum f n = 0
  | 0, _ => rfl
  | n + 1, h => by
    rw [l_sum, ls_z (fun k hk => h k (by omega)), h n (by omega)]
    rfl
theorem cg_Fc {x : Nat} (h : Inv B R n q mm ww) (hq : q < 30) : Fc B n q mm ww (nI (cgAm x)) (nI (x % 3) - nI 1) B (addR R q (nI (x % 3) - nI 1) (nI (cgAm x))) := by
  have ha := cgAm_r x
  refine Fc_0 h hq ?_ (by rw [nI_toInt (by omega)]; omega)
  rcases cgCu (x % 3) (by omega) with e | ⟨e1, e2⟩
  · rw [e, im1]
    omega
  · rw [ltI, i0] at e1
    rw [ltI, show (8 : Int32).toInt = 8 by decide] at e2
    omega
theorem cg_F2 {x : Nat} (h : Inv B R n q mm ww) (hq : q < 30) : ∃ cu', (nI (x % 3) - nI 1 = -1 ∨ cu' = nI (x % 3) - nI 1) ∧ Fc B n q mm ww (nI (cgAm x)) cu' (cgS B R E td n q x).1 (cgS B R E td n q x).2.1 :=
  (Fc_fam (td := td)).rcv (E := E) h.1.2.1 (cg_Fc h hq)
theorem inv_cgend {x : Nat} {u : TBL × TBL × TBL} (h : Inv B R n q mm ww) (hu : CGend B R E td n q x u) : ∃ q', Inv u.1 u.2.1 n q' mm ww := by
  rcases hu with ⟨_, e⟩ | ⟨hq, e1, e2⟩
  · rw [e]
    exact ⟨q, h⟩
  · obtain ⟨cu', -, h1⟩ := cg_F2 (E := E) (td := td) (x := x) h hq
    rw [e1, e2]
    exact ⟨q + 1, bnc_inv h1.1 (Nat.lt_succ_self q) h1.2.2.1 h1.2.2.2.1⟩
theorem inv_cag {x : Nat} (h : Inv B R n q mm ww) (hq : q < 30) : CGok B (cgS B R E td n q x).1 (cgS B R E td n q x).2.1 (cgS B R E td n q x).2.2 td n q x := by
  obtain ⟨cu', hcu, hF⟩ := cg_F2 (E := E) (td := td) (x := x) h hq
  have hend : ¬ (cgS B R E td n q x).2.1 0 q = -1 → 0 < ((cgS B R E td n q x).2.1 3 q).toInt → ∀ b, b < n → ww b = (cgS B R E td n q x).2.1 0 q → oI2 (cgS B R E td n q x).1 b = 0 := fun h1 h2 => rcv_end (cg_Fc h hq) h1 h2
  generalize (cgS B R E td n q x).1 = B1 at hF hend ⊢
  generalize (cgS B R E td n q x).2.1 = R1 at hF hend ⊢
  generalize (cgS B R E td n q x).2.2 = E1
  obtain ⟨hI, g0, g5, g4, g1, hT, hpot, hm1⟩ := hF
  have ham := cgAm_r x
  have eam : (nI (cgAm x)).toInt = cgAm x := nI_toInt (by omega)
  obtain ⟨hB, hR, hX, hS⟩ := id hI
  have hn := hB.2.1
  obtain ⟨f1, f2, f3, f4, f5, f6, f7, f8, f9, f10, f11⟩ := hR.2.2.2.1 q (Nat.lt_succ_self q)
  have hr2 := f10 (by omega) g5
  rw [g1, g4, i0, eam] at hr2
  have z3 : 0 ≤ (R1 3 q).toInt ∧ (R1 3 q).toInt ≤ cgAm x := by omega
  have hsub : (nI (cgAm x) - R1 3 q).toInt = cgAm x - (R1 3 q).toInt := by rw [fb_subI (by omega) (by omega), eam]
  have hO : (l_sum (opn B) n).toInt = sI (oI2 B) n := by
    have e1 : sI (fun k => (opn B k).toInt) n = sI (oI2 B) n := sI_c (fun k hk => (opn_I h.1 hk).1)
    have b1 := sI_b (f := oI2 B) (c := 10000) (n := n) (fun k hk => by have := opn_I h.1 hk; omega)
    rw [ls_I (fun k hk => by have := opn_I h.1 hk; omega) (by omega), e1]
  have hO1 := sI_0 (f := oI2 B1) (n := n) (fun k hk => (opn_I hB hk).2.1)
  have hD : (l_sum (B1 8) n).toInt = sI (fun k => (B1 8 k).toInt) n := by
    have b1 := sI_b (f := fun k => (B1 8 k).toInt) (c := 10000) (n := n) (fun k hk => (b8_le hB hk).2)
    exact ls_I (fun k hk => (b8_le hB hk).1) (by omega)
  obtain ⟨l1, l2, l3⟩ := bnc_l (n := n) (mm := mm) (ww := ww) (Nat.lt_succ_self q) (Nat.zero_add n) (hI.exempt (rc := q)) g5 g4 (fun b hb => absurd hb (Nat.not_lt_zero _)) (uu := 0)
  obtain ⟨-, k2⟩ := bnc_k (n := n) (mm := mm) (ww := ww) (Nat.lt_succ_self q) (k := n) (i := 0) (uu := 0) (by omega) (hI.exempt (rc := q)) g5
  obtain ⟨c1, c2, c3⟩ := bnc_c (rc := q) (k := n) (i := 0) (uu := 0) (B := B1) (R := R1)
  have hcl : ¬ R1 0 q < 0 → ¬ R1 3 q = 0 → ∀ b, b < n → ww b = R1 0 q → oI2 B1 b = 0 := fun h1 h2 => hend (fun z => h1 (by rw [z]; decide)) (by
    have : (R1 3 q).toInt ≠ 0 := fun z => h2 (eqI (by rw [z, i0]))
    omega)
  refine ⟨hB.1, hR.1, g5, by rw [g4]; decide, hR.2.2.1, fun z => by rw [ltI, i0] at z; omega, by rw [leI, hsub, hO]; omega, ?_, ?_, ?_, fun h1 h2 => ⟨?_, ?_⟩, fun hlt => ?_, ?_, l1.1.1, fun k hk => ?_⟩
  · rcases hcu with e | e
    · exact Or.inl (by rw [e]; decide)
    · exact Or.inr (g0.trans e)
  · by_cases w : R1 0 q < 0
    · right
      rw [ltI, i0] at w
      exact hm1 (by rw [← g0]; exact eqI (by rw [im1]; omega))
    · exact Or.inl w
  · by_cases w : R1 0 q = -1
    · exact Or.inl w
    · refine Or.inr ⟨fun z => ?_, ?_⟩
      · rw [ltI, i0] at z
        exact w (eqI (by rw [im1]; omega))
      · rw [ltI, show (8 : Int32).toInt = 8 by decide]
        exact f3
  · rw [h_P6 (ww := ww) (fun k hk => (hB.2.2.1 k hk).1) (Nat.le_refl _)]
    refine ls_z (fun k hk => ?_)
    by_cases w : ww k = R1 0 q
    · rw [if_pos w]
      exact eqI (by rw [(opn_I hB hk).1, hcl h1 h2 k hk w, i0])
    · rw [if_neg w]
  · refine oth_n (fun b hb z => z.2 ?_)
    rw [leI, i0, (opn_I hB hb).1, hcl h1 h2 b hb ((hB.2.2.1 b hb).1.symm.trans z.1)]
    exact Int.le_refl _
  · rw [ltI, eam] at hlt
    refine nI_nlt (c3 ?_) (by omega)
    refine Classical.byContradiction fun hno => ?_
    have hz : ∀ b, b < 40 → R1 7 (40 * q + b) = 0 := fun b hb => Classical.byContradiction fun z => by
      by_cases w : b < n
      · exact hno ⟨b, Nat.zero_le _, by omega, z⟩
      · exact w ((hX q b (by omega) hb).2.2 z).2.1
    have : (R1 2 q).toInt = 0 := by
      rw [hS.2 q (by omega)]
      exact sI_z (fun b hb => by rw [(hX q b (by omega) hb).2.1 (hz b hb), i0])
    omega
  · exact nI_nlt (Nat.zero_le _) (by omega)
  · obtain ⟨t1, t2, t3, t4, t5, t6⟩ := hT k hk
    obtain ⟨a1, a2⟩ := k2 k (Nat.zero_le _) (by omega)
    have h8 : (B1 8 k).toInt ≤ sI (fun k => (B1 8 k).toInt) n := sI_g (f := fun k => (B1 8 k).toInt) (fun k hk => (b8_le hB hk).1) hk
    have h8z := sI_0 (f := fun k => (B1 8 k).toInt) (n := n) (fun k hk => (b8_le hB hk).1)
    have hb0 := b5_le h.1 (show k < 40 by omega)
    by_cases w : R1 7 (40 * q + k) = 0
    · have e := a1 w
      have e6 := (hX q k (by omega) (by omega)).2.1 w
      rw [e6, i0] at t3
      have e5 : B1 5 k = B 5 k := eqI (by omega)
      refine ⟨by rw [e 8, leI, hD]; exact h8, Or.inl ?_⟩
      unfold kpF opn
      rw [e 1, e 5, e 6, e 8, e 10, t1, t2, e5, (t4 w).1, (t4 w).2]
    · obtain ⟨u1, u2, u3, u4, u5⟩ := a2 w
      have e5 : (bncL q n 0 0 B1 R1).2.1 5 k = B 5 k := eqI (by omega)
      have e6 : (bncL q n 0 0 B1 R1).2.1 6 k = B 6 k := by
        rcases u4 with ⟨v1, v2⟩ | ⟨v1, v2⟩
        · rcases t5 with ⟨-, w2⟩ | ⟨w1, -⟩
          · rw [v2]
            exact eqI (by rw [w2, i0])
          · exact absurd v1 w1
        · rcases t5 with ⟨w1, -⟩ | ⟨-, w2⟩
          · exact absurd w1 v1
          · exact v2.trans w2
      rcases u5 with ⟨v1, v2⟩ | ⟨v1, v2⟩
      · refine ⟨by rw [v2, leI, hD, i0]; exact h8z, Or.inr ⟨v2, fun z => ?_⟩⟩
        rw [e5, ltI, i0] at z
        omega
      · refine ⟨by rw [v2, leI, hD]; exact h8, Or.inl ?_⟩
        unfold kpF opn
        rw [u2, u3, e5, e6, v2, t1, t2, t6.resolve_left v1]
end CAG
