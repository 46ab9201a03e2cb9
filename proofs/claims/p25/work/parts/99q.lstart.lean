/-! THE LAW: the start -/
set_option maxHeartbeats 4000000 in
set_option maxRecDepth 100000 in
theorem SI_31 (k : Nat) {j : Int} (h : ¬ j = 1 ∧ ¬ j = 6 ∧ ¬ j = 7) : SI k 31 j = 0 := by
  show (if j = 1 then (1 : Int) else if j = 6 then 3 else if j = 7 then 12 else 0) = 0
  rw [if_neg h.1, if_neg h.2.1, if_neg h.2.2]