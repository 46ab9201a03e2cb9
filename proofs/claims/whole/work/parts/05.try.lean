set_option maxHeartbeats 4000000 in
set_option maxRecDepth 10000 in
theorem tr_append (S : Hp) (k : Nat) (w t : Int) (Q : Option MV → Hp → Prop) (h : False) : Wp 61 0 [some (.inr (k, 9)), some (.inl w), some (.inl t), none] [] S Q := by
  refine vg_sound (fun _ _ => false) (fun _ => true) 60 _ _ _ _ _ _ ?_
  simp (config := {maxSteps := 50000}) only [f_X6_append, vg_0, vg_s, vK_none, vK_N, vK_C, vK_R, vK_ite, vQ_some, vQ_none, stR, mC, stI, ini, mL, gI, gA, sI, sA, bi, gF, pF, kF, kT, kL, c2, mT, mR, f4, tsw, lsw, tgt, inR, Nat.reduceLT, Nat.reduceLeDiff, Nat.reduceEqDiff, Nat.reduceAdd, Nat.reduceSub, ↓reduceIte, Bool.false_eq_true, List.map_cons, List.map_nil, List.length_cons, List.length_nil, List.replicate, List.cons_append, List.nil_append, List.getElem?_cons_zero, List.getElem?_cons_succ, List.set, List.take_succ_cons, List.take_zero, List.drop_succ_cons, List.drop_zero, List.reverse_cons, List.reverse_nil, if_false_right, Int.reduceLE, Int.reduceLT, Int.reduceNeg, Int.reduceToNat, true_and, and_true, and_self, beq_iff_eq, Bool.and_eq_true]
  trace_state
  exact h.elim
set_option maxHeartbeats 4000000 in
set_option maxRecDepth 10000 in
theorem tr_more (S : Hp) (w t by_ : Int) (Q : Option MV → Hp → Prop) (h : False) : Wp 119 0 (ini 119 [(.inr (0, 30)), (.inl w), (.inl t), .inl by_]) [] S Q := by
  refine vg_sound (fun _ _ => false) (fun _ => true) 60 _ _ _ _ _ _ ?_
  simp (config := {maxSteps := 50000}) only [f_X8_more, f_X8_at, f_X8_put, vg_0, vg_s, vK_none, vK_N, vK_C, vK_R, vK_ite, vQ_some, vQ_none, stR, mC, stI, ini, mL, gI, gA, sI, sA, bi, gF, pF, kF, kT, kL, c2, mT, mR, f4, tsw, lsw, tgt, inR, Nat.reduceLT, Nat.reduceLeDiff, Nat.reduceEqDiff, Nat.reduceAdd, Nat.reduceSub, ↓reduceIte, Bool.false_eq_true, List.map_cons, List.map_nil, List.length_cons, List.length_nil, List.replicate, List.cons_append, List.nil_append, List.getElem?_cons_zero, List.getElem?_cons_succ, List.set, List.take_succ_cons, List.take_zero, List.drop_succ_cons, List.drop_zero, List.reverse_cons, List.reverse_nil, if_false_right, Int.reduceLE, Int.reduceLT, Int.reduceNeg, Int.reduceToNat, true_and, and_true, and_self, beq_iff_eq, Bool.and_eq_true]
  trace_state
  exact h.elim
set_option maxHeartbeats 4000000 in
set_option maxRecDepth 10000 in
theorem tr_rem (S : Hp) (k : Nat) (t : Int) (Q : Option MV → Hp → Prop) (h : False) : Wp 63 0 (ini 63 [(.inr (k, 9)), (.inl t)]) [] S Q := by
  refine vg_sound (fun m pc => m == 63 && pc == 4) (fun _ => true) 60 _ _ _ _ _ _ ?_
  simp (config := {maxSteps := 50000}) only [f_X6_removeAll, vg_0, vg_s, vK_none, vK_N, vK_C, vK_R, vK_ite, vQ_some, vQ_none, stR, mC, stI, ini, mL, gI, gA, sI, sA, bi, gF, pF, kF, kT, kL, c2, mT, mR, f4, tsw, lsw, tgt, inR, Nat.reduceLT, Nat.reduceLeDiff, Nat.reduceEqDiff, Nat.reduceAdd, Nat.reduceSub, ↓reduceIte, Bool.false_eq_true, List.map_cons, List.map_nil, List.length_cons, List.length_nil, List.replicate, List.cons_append, List.nil_append, List.getElem?_cons_zero, List.getElem?_cons_succ, List.set, List.take_succ_cons, List.take_zero, List.drop_succ_cons, List.drop_zero, List.reverse_cons, List.reverse_nil, if_false_right, Int.reduceLE, Int.reduceLT, Int.reduceNeg, Int.reduceToNat, true_and, and_true, and_self, beq_iff_eq, Bool.and_eq_true]
  trace_state
  exact h.elim
