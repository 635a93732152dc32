/-! What holds of a desk is kept by every act. -/
theorem x64 (x : Int32) : x.toInt64.toInt = x.toInt := Int32.toInt_toInt64 x
theorem dcO_I {am rt : Int32} (h3 : 1 ≤ am.toInt) (h4 : am.toInt ≤ 1000000) (h7 : 0 ≤ rt.toInt) (h8 : rt.toInt ≤ 10000) : 0 ≤ (dcO am rt).toInt ∧ (dcO am rt).toInt ≤ am.toInt := by
  have bm : ∀ w : Int, -9223372036854775808 ≤ w → w < 9223372036854775808 → w.bmod (2 ^ 64) = w := fun w h1 h2 => by rw [Int.bmod_eq_of_le (by omega) (by omega)]
  have p0 : 0 ≤ am.toInt * rt.toInt := Int.mul_nonneg (by omega) h7
  have p1 : am.toInt * rt.toInt ≤ am.toInt * 10000 := Int.mul_le_mul_of_nonneg_left h8 (by omega)
  have e1 : (am.toInt64 * rt.toInt64).toInt = am.toInt * rt.toInt := by rw [Int64.toInt_mul, x64, x64, bm _ (by omega) (by omega)]
  have e2 : (am.toInt64 * rt.toInt64 / 10000).toInt = am.toInt * rt.toInt / 10000 := by
    rw [Int64.toInt_div, e1, show (10000 : Int64).toInt = 10000 by decide, Int.tdiv_eq_ediv_of_nonneg p0, bm _ (by omega) (by omega)]
  have e3 : (dcO am rt).toInt = am.toInt * rt.toInt / 10000 := by
    unfold dcO
    rw [Int64.toInt_toInt32, e2, fb_bmod (by omega) (by omega)]
  rw [e3]
  omega
section KEEP
variable {ex : Nat} {B B' R R' E : TBL} {n q rc b : Nat} {td : Int32} {mm ww : Nat → Int32}
/-- what a payment, a dispute and the finding of a customer keep -/
def Fam (F : Int32 → TBL → TBL → Prop) (n rc : Nat) (td : Int32) (ww : Nat → Int32) : Prop :=
  (∀ cu B R, F cu B R → R 0 rc = cu) ∧ (∀ cu B R b, F cu B R → b < n → B 0 b = ww b) ∧ (∀ cu B R b, F cu B R → b < n → ww b = cu → F cu (payB B R rc b td) (payR B R rc b td)) ∧
  (∀ cu B R b, F cu B R → b < n → R 7 (40 * rc + b) = 1 → F cu (dsp B b (nI rc)) R) ∧ ∀ B R v, F (-1) B R → (v = -1 ∨ ∃ b, b < n ∧ v = ww b) → F v B (pt R 0 rc v)
theorem Fam.oth {F : Int32 → TBL → TBL → Prop} {cu : Int32} (hF : Fam F n rc td ww) (hn : n ≤ 40) (h : F cu B R) : F cu (othS B R E rc n td).1 (othS B R E rc n td).2.1 :=
  oth_g (F := F cu) (ww := ww) hn (fun B R h => hF.1 cu B R h) (fun B R b h hb => hF.2.1 cu B R b h hb) (fun B R b h hb e => hF.2.2.1 cu B R b h hb e) h
theorem nmd_r {rf : Int32} (hw : ∀ b, b < n → B 0 b = ww b) : ∀ {k i : Nat}, i + k ≤ n → nmd B rf k i = -1 ∨ ∃ b, b < n ∧ nmd B rf k i = ww b
  | 0, _, _ => Or.inl rfl
  | k + 1, i, hk => by
    rw [nmd]
    split
    · exact Or.inr ⟨i, by omega, hw i (by omega)⟩
    · exact nmd_r hw (by omega)
theorem Fam.nam {F : Int32 → TBL → TBL → Prop} {cu rf : Int32} (hF : Fam F n rc td ww) (h : F cu B R) : ∃ cu', (cu = -1 ∨ cu' = cu) ∧ F cu' (namS B R rc rf n td).1 (namS B R rc rf n td).2 := by
  have hg : ∀ c B R, F c B R → F c (namL rc rf c td n 0 B R).1 (namL rc rf c td n 0 B R).2 := fun c B R h =>
    nam_g (F := F c) (fun B R b h hb e => hF.2.2.1 c B R b h hb (by rw [← hF.2.1 c B R b h hb]; exact e)) (fun B R b h hb e => hF.2.2.2.1 c B R b h hb e) (by omega) h
  have e0 := hF.1 cu B R h
  unfold namS
  by_cases z : R 0 rc = -1
  · rw [if_pos z, pt_s]
    have hc : cu = -1 := e0.symm.trans z
    subst hc
    exact ⟨nmd B rf n 0, Or.inl rfl, hg _ _ _ (hF.2.2.2.2 B R _ h (nmd_r (fun b hb => hF.2.1 _ B R b h hb) (by omega)))⟩
  · rw [if_neg z, e0]
    exact ⟨cu, Or.inr rfl, hg _ _ _ h⟩
theorem Fam.rcv {F : Int32 → TBL → TBL → Prop} {cu am rf : Int32} (hF : Fam F n q td ww) (hn : n ≤ 40) (h : F cu B (addR R q cu am)) : ∃ cu', (cu = -1 ∨ cu' = cu) ∧ F cu' (rcvS B R E q cu am rf n td).1 (rcvS B R E q cu am rf n td).2.1 := by
  unfold rcvS
  by_cases z : rf = 0
  · rw [if_pos z]
    exact ⟨cu, Or.inr rfl, hF.oth hn h⟩
  · rw [if_neg z]
    obtain ⟨cu', h1, h2⟩ := hF.nam (rf := rf) h
    exact ⟨cu', h1, hF.oth hn h2⟩
def Fz0 (ex n q : Nat) (mm ww : Nat → Int32) (rc : Nat) (cu : Int32) (B R : TBL) : Prop := Inx ex B R n q mm ww ∧ R 0 rc = cu ∧ R 5 rc = 0
theorem ww_r (h : BI B n q mm ww) (hb : b < n) : 0 ≤ (ww b).toInt ∧ (ww b).toInt ≤ 1 := by
  rcases (h.2.2.1 b hb).2.2.1 with e | e
  · rw [e, i0]
    omega
  · rw [e, i1]
    omega
theorem Fz_fam (hrc : rc < q) : Fam (Fz0 ex n q mm ww rc) n rc td ww := by
  refine ⟨fun cu B R h => h.2.1, fun cu B R b h hb => (h.1.1.2.2.1 b hb).1, fun cu B R b h hb e => ?_, fun cu B R b h hb _ => ⟨dsp_inv h.1 hb, h.2⟩, fun B R v h hv => ?_⟩
  · obtain ⟨h1, h2, h3⟩ := h
    obtain ⟨s, hs⟩ := pay_s (td := td) h1 hrc hb
    refine ⟨PayS.inv h1 hs hrc hb h3 (by rw [h2, (h1.1.2.2.1 b hb).1, e]), ?_, ?_⟩
    · rw [hs.2.1.1 0 rc (by decide) (by decide) (by decide) (by decide)]
      exact h2
    · rw [hs.2.1.1 5 rc (by decide) (by decide) (by decide) (by decide)]
      exact h3
  · obtain ⟨h1, h2, h3⟩ := h
    refine ⟨setC_inv h1 hrc h2 ?_, pt_s, by rw [pt_o (by omega)]; exact h3⟩
    rcases hv with e | ⟨b, hb, e⟩
    · rw [e, im1]
      omega
    · have := ww_r h1.1 hb
      rw [e]
      omega
theorem oth_inv (h : Inv B R n q mm ww) (hrc : rc < q) (h5 : R 5 rc = 0) : Inv (othS B R E rc n td).1 (othS B R E rc n td).2.1 n q mm ww :=
  ((Fz_fam (td := td) hrc).oth h.1.2.1 ⟨h, rfl, h5⟩).1
theorem addR_c {cu am : Int32} : addR R q cu am 0 q = cu ∧ addR R q cu am 1 q = am ∧ addR R q cu am 3 q = am := by
  refine ⟨?_, ?_, ?_⟩ <;> simp [addR, pt_at]
theorem addR_o {cu am : Int32} {k i : Nat} (h0 : k ≠ 0) (h1 : k ≠ 1) (h3 : k ≠ 3) (h8 : k ≠ 8) : addR R q cu am k i = R k i := by
  unfold addR
  rw [pt_o (by omega), pt_o (by omega), pt_o (by omega), pt_o (by omega)]
theorem rcv_inv {cu am rf : Int32} (h : Inv B R n q mm ww) (hq : q < 30) (hcu : -1 ≤ cu.toInt ∧ cu.toInt < 8) (ha : 0 ≤ am.toInt ∧ am.toInt ≤ 10000) : Inv (rcvS B R E q cu am rf n td).1 (rcvS B R E q cu am rf n td).2.1 n (q + 1) mm ww := by
  obtain ⟨cu', -, h2⟩ := (Fz_fam (ex := 99) (n := n) (mm := mm) (ww := ww) (td := td) (Nat.lt_succ_self q)).rcv (E := E) (rf := rf) (B := B) (R := R) h.1.2.1 ⟨addR_inv h hq hcu ha, addR_c.1, by rw [addR_o (by decide) (by decide) (by decide) (by decide)]; exact (h.2.1.2.2.2.2 q hq (Nat.le_refl _)).2.2⟩
  exact h2.1
/-- the loop of a bounce -/
theorem bnc_l (hrc : rc < q) : ∀ {k i uu : Nat} {B R : TBL}, i + k = n → Inx rc B R n q mm ww → R 5 rc = 0 → R 4 rc = 0 → (∀ b, b < i → R 7 (40 * rc + b) = 0) →
    Inx rc (bncL rc k i uu B R).2.1 (bncL rc k i uu B R).2.2 n q mm ww ∧ (bncL rc k i uu B R).2.2 4 rc = 0 ∧ ∀ b, b < n → (bncL rc k i uu B R).2.2 7 (40 * rc + b) = 0
  | 0, i, uu, B, R, hk, h, h5, h4, hz => ⟨h, h4, fun b hb => hz b (by omega)⟩
  | k + 1, i, uu, B, R, hk, h, h5, h4, hz => by
    rw [bncL]
    by_cases z : R 7 (40 * rc + i) = 0
    · rw [if_pos z]
      refine bnc_l hrc (by omega) h h5 h4 (fun b hb => ?_)
      by_cases e : b = i
      · rw [e]
        exact z
      · exact hz b (by omega)
    · rw [if_neg z]
      have hs := und_s h hrc (show i < n by omega)
      have hv := UndS.inv h hs hrc (by omega) h5
      obtain ⟨-, ⟨p3, p4, p5⟩, ⟨-, -, -, s4⟩, -, -⟩ := hs
      refine bnc_l hrc (by omega) hv ((p3 5 rc (by decide) (by decide) (by decide)).trans h5) ((p3 4 rc (by decide) (by decide) (by decide)).trans h4) (fun b hb => ?_)
      by_cases e : b = i
      · rw [e]
        exact s4
      · rw [p5 7 _ (by decide) (by omega)]
        exact hz b (by omega)
theorem bnc_inv (h : Inv B R n q mm ww) (hrc : rc < q) (h5 : R 5 rc = 0) (h4 : R 4 rc = 0) : Inv (bncL rc n 0 0 B R).2.1 (mkB (bncL rc n 0 0 B R).2.2 rc) n q mm ww := by
  obtain ⟨a1, a2, a3⟩ := bnc_l hrc (Nat.zero_add n) (h.exempt (rc := rc)) h5 h4 (fun b hb => absurd hb (Nat.not_lt_zero _)) (uu := 0)
  exact mkB_inv a1 hrc a2 a3
theorem nI_le_I {k : Nat} (h : k < 2147483648) : (nI k).toInt = k := nI_toInt h
theorem inv_init : Inv z0 z0 0 0 (fun _ => 0) (fun _ => 0) := by
  have hz : ∀ (m : Nat), (0 : Int) = sI (fun _ => (0 : Int32).toInt) m := fun m => (sI_z (fun _ _ => i0)).symm
  refine ⟨⟨rfl, by decide, fun i hi => absurd hi (Nat.not_lt_zero _), fun i hi => ⟨?_, ?_, ?_, ?_, fun h => absurd h (Nat.not_lt_zero _), fun _ => ⟨rfl, rfl, rfl, rfl⟩⟩⟩, ⟨rfl, by decide, fun j => Or.inl rfl, fun r hr => absurd hr (Nat.not_lt_zero _), fun r _ _ => ⟨rfl, rfl, rfl⟩⟩, fun r b _ _ => ⟨?_, fun _ => rfl, fun z => absurd rfl z⟩, fun b _ => ?_, fun r _ => ?_⟩
  · show 0 ≤ (0 : Int32).toInt
    decide
  · show 0 ≤ (0 : Int32).toInt
    decide
  · show 0 ≤ (0 : Int32).toInt
    decide
  · show 0 ≤ (0 : Int32).toInt
    decide
  · show 0 ≤ (0 : Int32).toInt
    decide
  · exact i0.trans (hz 30)
  · exact i0.trans (hz 40)
theorem inv_act {v : Int32} {E' : TBL} {td' : Int32} {x : Nat} (h : Inv B R n q mm ww) (e : actF B R E td n q x = (v, B', R', E', td')) :
    (∃ q', Inv B' R' n q' mm ww) ∨ Inv B' R' (n + 1) q (upd mm n (nI (aAm (x / 16) 9 5000))) (upd ww n (nI (x / 16 % 2))) := by
  unfold actF at e
  generalize x / 16 = y at e ⊢
  generalize x % 16 = k at e
  have same : (B, R, E, td) = (B', R', E', td') → ∃ q', Inv B' R' n q' mm ww := fun w => by
    cases w
    exact ⟨q, h⟩
  have hn := h.1.2.1
  have hq := h.2.1.2.1
  have hrcv : ∀ cu : Int32, (-1 ≤ cu.toInt ∧ cu.toInt < 8) → actR B R E td n q y cu = (v, B', R', E', td') → ∃ q', Inv B' R' n q' mm ww := fun cu hc w => by
    unfold actR at w
    split at w
    · rename_i hlt
      cases w
      have := aAm_r (y := y) (k := 20) (mm := 6000) (by decide) (by decide) (by decide) (by decide)
      exact ⟨q + 1, rcv_inv h hlt hc (by rw [nI_toInt (by omega)]; omega)⟩
    · cases w
      exact ⟨q, h⟩
  unfold actG at e
  split at e
  · unfold actB at e
    split at e
    · rename_i hlt
      cases e
      have h1 := aAm_r (y := y) (k := 9) (mm := 5000) (by decide) (by decide) (by decide) (by decide)
      have h2 : aRt y ≤ 10000 := by
        unfold aRt
        split
        · exact Nat.le_refl _
        · have := Nat.mod_lt (y / 11) (show 0 < 500 by decide)
          omega
      have e1 : (nI (aAm y 9 5000)).toInt = aAm y 9 5000 := nI_toInt (by omega)
      have e2 : (nI (aRt y)).toInt = aRt y := nI_toInt (by omega)
      refine Or.inr (addB_inv h hlt ?_ (by rw [e1]; omega) (dcO_I (by rw [e1]; omega) (by rw [e1]; omega) (by rw [e2]; omega) (by rw [e2]; omega)))
      rcases (show y % 2 = 0 ∨ y % 2 = 1 by omega) with w | w
      · rw [w]
        exact Or.inl rfl
      · rw [w]
        exact Or.inr rfl
    · cases e
      exact Or.inl ⟨q, h⟩
  · left
    split at e
    · refine hrcv _ ?_ e
      rw [nI_toInt (by omega)]
      omega
    · split at e
      · exact hrcv _ (by rw [im1]; omega) e
      · split at e
        · unfold actA at e
          split at e
          · cases e
            exact ⟨q, h⟩
          · rename_i hq0
            split at e
            · rename_i hj
              cases e
              have hm : y % q < q := Nat.mod_lt _ (by omega)
              have h1 : Inv B (pt R 0 (y % q) (nI (y / 30 % 2))) n q mm ww := setC_inv h hm hj.2 (by rw [nI_toInt (by omega)]; omega)
              exact ⟨q, oth_inv h1 hm (by rw [pt_o (by omega)]; exact hj.1)⟩
            · cases e
              exact ⟨q, h⟩
        · split at e
          · unfold actP at e
            split at e
            · cases e
              exact ⟨q, h⟩
            · rename_i hq0
              split at e
              · rename_i hj
                cases e
                exact ⟨q, oth_inv h (Nat.mod_lt _ (by omega)) hj.1⟩
              · cases e
                exact ⟨q, h⟩
          · split at e
            · unfold actK at e
              split at e
              · cases e
                exact ⟨q, h⟩
              · rename_i hq0
                split at e
                · rename_i hj
                  cases e
                  exact ⟨q, pbR_inv h (Nat.mod_lt _ (by omega)) hj.1⟩
                · cases e
                  exact ⟨q, h⟩
            · split at e
              · unfold actC at e
                split at e
                · cases e
                  exact ⟨q, h⟩
                · rename_i hq0
                  split at e
                  · rename_i hj
                    cases e
                    have hm : y % q < q := Nat.mod_lt _ (by omega)
                    have h4 : R 4 (y % q) = 0 := by
                      have g := (h.2.1.2.2.2.1 _ hm).2.2.2.2.2.2.2.1
                      have g2 := hj.2
                      rw [leI, i0] at g2
                      exact eqI (by rw [i0]; omega)
                    exact ⟨q, bnc_inv h hm hj.1 h4⟩
                  · cases e
                    exact ⟨q, h⟩
              · split at e
                · unfold actS at e
                  split at e
                  · cases e
                    exact ⟨q, h⟩
                  · rename_i hn0
                    split at e
                    · cases e
                      exact ⟨q, h⟩
                    · cases e
                      exact ⟨q, edD_inv h (fbl_lt (by omega) (Nat.mod_lt _ (by omega)))⟩
                · unfold actV at e
                  cases e
                  exact ⟨q, h⟩
end KEEP
