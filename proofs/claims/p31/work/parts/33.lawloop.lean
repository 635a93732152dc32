section LWLOOP
variable {p : Program} {l : Launch} {e : Env} {s : State} {m : MethodId} {below : List Frame} {meth : Method} {c : Code}
variable {D : va_G} {a g : Nat → Nat} {cI cZ : ClassId} {b L T qm qw : Nat} {xs : Nat → Int32}
set_option maxHeartbeats 4000000 in
set_option maxRecDepth 100000 in
/-- THE LAW'S LOOP: at its head, with k acts done, both desks hold the same -/
theorem law_loop (hr : meth.sig.returnType = ret) (hlocks : meth.locks = false) (F : CallFix p m c code 11 s #[Value.ref b] wsL_law RL) (hK : va_K D vwCl (tyl cI cZ) s) (hX : ExB s) (hZ : ExZ (fun q => s.heap.size ≤ q) s s.heap) (hfl : l.stackTraces = false) (hSc : va_X b L xs s s.heap) (hbl : b < s.heap.size) (hL : L ≤ 260) (hT : T ≤ 44) :
    ∀ (fu k n q : Nat) (B R E : TBL) (td : Int32) (mm ww : Nat → Int32) (H : Heap) (locs : List Loc) (ls : Array Slot), T < k + fu → k ≤ T → Inv B R n q mm ww → va_P D vwCl (wLW a g cI cZ B R E td B R E td qm qw mm ww) H → va_D (fun q => s.heap.size ≤ q) (wLW a g cI cZ B R E td B R E td qm qw mm ww) → va_S (fun q => s.heap.size ≤ q) s.heap H locs →
      lv_has ls 11 [(0, .ref (b)), (1, .ref (a 0)), (2, .ref (g 0)), (3, .ref (qm)), (4, .ref (qw)), (5, .int (nI (T))), (6, .int (nI (1))), (7, .int (nI (k)))] → W p l e room_1 s m #[Value.ref b] below meth c H locs (54 + 90 * k) (6344 + 540 * k) (lw_Z below #[Value.ref b] s) (F0 m 46 ls []) := by
  obtain ⟨hx, hb, hml, hown, hts⟩ := id F
  have hA : ∀ q : Nat, s.heap.size ≤ q → (fun q : Nat => s.heap.size ≤ q) q := fun _ h => h
  have hbA : ¬ (fun q : Nat => s.heap.size ≤ q) b := Nat.not_le.mpr hbl
  intro fu
  induction fu with
  | zero =>
    intro k n q B R E td mm ww H locs ls h1 h2
    exact absurd h1 (by omega)
  | succ fu ih =>
    intro k n q B R E td mm ww H locs ls h1 h2 hI hP hD hS hl
    refine lv_iload hx hb dL_law_46 (lv_at hl 7 rfl) ?_
    refine lv_iload hx hb dL_law_48 (lv_at hl 5 rfl) ?_
    refine lv_icmp_ge (tgt := 214) hx hb dL_law_50 (by decide) (fun z => ?_) (fun z => ?_)
    · refine lw_d (54 + 90 * k) (6344 + 540 * k) n q T k F hK hA hX hZ hfl hSc hbl hbA hL (by omega) (by omega) hI hT hP hD hS (lv_sub hl [0, 1, 2, 3, 4, 5, 6] rfl) (fun B2 R2 E2 H locs ls hP hD hS hl => ?_)
      refine va_forget (fun q hq => hS.2.2 q hq) ?_
      refine W.widen (k := 600086) (n := 7301442) (by omega) (by omega) ?_
      exact lw_ret hx hb hr hlocks dL_law_262
    · rw [nI_leI (by omega) (by omega)] at z
      have hk : k < T := by omega
      refine lw_a (54 + 90 * k) (6344 + 540 * k) n q T k F hK hA hX hZ hfl hSc hbl hbA hL (by omega) (by omega) hI hT hk hP hD hS hl (fun x hx9 H locs ls hP hD hS hl => ?_)
      obtain ⟨⟨v, B', R', E', td'⟩, ha⟩ : ∃ z, actF B R E td n q x = z := ⟨_, rfl⟩
      obtain ⟨n', q', mm', ww', hJ, hc⟩ : ∃ n' q' mm' ww', Inv B' R' n' q' mm' ww' ∧ ((n' = n ∧ mm' = mm ∧ ww' = ww) ∨ (n' = n + 1 ∧ mm' = upd mm n (nI (aAm (x / 16) 9 5000)) ∧ ww' = upd ww n (nI (x / 16 % 2)))) := by
        rcases inv_act hI ha with ⟨q1, h3⟩ | h3
        · exact ⟨n, q1, mm, ww, h3, Or.inl ⟨rfl, rfl, rfl⟩⟩
        · exact ⟨n + 1, q, _, _, h3, Or.inr ⟨rfl, rfl, rfl⟩⟩
      refine lw_b (54 + 90 * k) (6344 + 540 * k) n q T k x v B' R' E' td' n' q' mm' ww' F hK hA hX hZ hfl hSc hbl hbA hL (by omega) (by omega) hI hT hx9 ha hJ hc hP hD hS hl (fun H locs ls hP hD hS hl => ?_)
      refine lw_c (54 + 90 * k + 90) (6344 + 540 * k + 540) n' q' T k F hK hA hX hZ hfl hSc hbl hbA hL (by omega) (by omega) hJ hT hP hD hS hl (fun H locs ls hP hD hS hl => ?_)
      refine W.widen (k := 54 + 90 * (k + 1)) (n := 6344 + 540 * (k + 1)) (by omega) (by omega) ?_
      exact ih (k + 1) n' q' B' R' E' td' mm' ww' H locs ls (by omega) (by omega) hJ hP hD hS hl
end LWLOOP
