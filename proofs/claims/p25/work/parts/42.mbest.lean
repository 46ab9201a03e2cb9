/-! THE REFERENCE: the best rule -/
/- a rule weighed -/
abbrev brB (P : Int → Int) (w b m : Int) : Prop := ptC P ≤ w ∧ (b = -5 ∨ m < pyS P - cbA P)
/- what must hold of every row on the way of a rule -/
def RtP (M : Int → Int) (r : Int) : Prop := (∀ k : Nat, k < 99 → TkP (rtM M r k) (nT (rtM M r k))) ∧ FlB (rtM M r 99) ∧ PdB (rtM M r 99) ∧ tdR (ptC (rtM M r 99)) ∧ tdR (pyS (rtM M r 99) - cbA (rtM M r 99))
def brR (P : Int → Int) (w r : Int) (q : Int × Int) : Int × Int := (if brB P w q.1 q.2 then r else q.1, if brB P w q.1 q.2 then pyS P - cbA P else q.2)
set_option maxHeartbeats 4000000 in
set_option maxRecDepth 100000 in
theorem brR_td {P : Int → Int} {w r : Int} {q : Int × Int} (hr0 : 0 ≤ r ∧ r < 3) (h : tdR (pyS P - cbA P)) (h1 : tdR q.1) (h2 : tdR q.2) : tdR (brR P w r q).1 ∧ tdR (brR P w r q).2 := by
  unfold brR tdR at *
  dsimp only
  by_cases e : brB P w q.1 q.2
  · rw [if_pos e, if_pos e]; omega
  · rw [if_neg e, if_neg e]; omega
/- the rows after each rule -/
def brN (M : Int → Int) : Nat → (Int → Int)
  | 0 => M
  | k + 1 => cpF (rtM (brN M k) (k : Int) 99) M 3833
def brV (M : Int → Int) : Nat → Int × Int
  | 0 => (-5, 0)
  | k + 1 => brR (rtM (brN M k) (k : Int) 99) (ptC M) (k : Int) (brV M k)