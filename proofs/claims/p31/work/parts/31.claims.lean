theorem inv_init : Inv z0 z0 0 0 (fun _ => 0) (fun _ => 0) := sorry
theorem inv_act {B R E B' R' E' : TBL} {td td' v : Int32} {n q x : Nat} {mm ww : Nat → Int32} (h : Inv B R n q mm ww) (e : actF B R E td n q x = (v, B', R', E', td')) :
    (∃ q', Inv B' R' n q' mm ww) ∨ Inv B' R' (n + 1) q (upd mm n (nI (aAm (x / 16) 9 5000))) (upd ww n (nI (x / 16 % 2))) := sorry
theorem inv_holds {B R : TBL} {td : Int32} {n q : Nat} {mm ww : Nat → Int32} (h : Inv B R n q mm ww) : HOk B R td n q mm ww := sorry
theorem inv_cag {B R E : TBL} {td : Int32} {n q x : Nat} {mm ww : Nat → Int32} (h : Inv B R n q mm ww) (hq : q < 30) : CGok B (cgS B R E td n q x).1 (cgS B R E td n q x).2.1 (cgS B R E td n q x).2.2 td n q x := sorry
theorem inv_cgend {B R E : TBL} {td : Int32} {n q x : Nat} {mm ww : Nat → Int32} {u : TBL × TBL × TBL} (h : Inv B R n q mm ww) (hu : CGend B R E td n q x u) : ∃ q', Inv u.1 u.2.1 n q' mm ww := sorry
