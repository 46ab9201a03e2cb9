set_option maxHeartbeats 4000000 in
theorem tr_append (S : Hp) (w t : Int) (Q : Option MV → Hp → Prop) (h : False) : Wp 0 0 (ini 0 []) [] S Q := by
  exact h.elim
