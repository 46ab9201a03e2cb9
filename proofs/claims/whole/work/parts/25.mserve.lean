/-! THE REFERENCE's row: windows serve, the clerk -/
def toM (M : Int → Int) (w : Int) : Int → Int :=
  let A := moM M w 0 (-1)
  let A1 := up A (8 + 15 * w + 1) (A (8 + 15 * w + 2))
  let A2 := up A1 (8 + 15 * w + 2) (A1 (8 + 15 * w + 3))
  let A3 := up A2 (8 + 15 * w + 3) (A2 (8 + 15 * w + 4))
  let A4 := up A3 (8 + 15 * w + 4) (A3 (8 + 15 * w + 5))
  let A5 := up A4 (8 + 15 * w + 5) (A4 (8 + 15 * w + 6))
  let A6 := up A5 (8 + 15 * w + 6) (A5 (8 + 15 * w + 7))
  let A7 := up A6 (8 + 15 * w + 7) (A6 (8 + 15 * w + 8))
  up A7 (8 + 15 * w + 8) 0
set_option maxHeartbeats 4000000 in
set_option maxRecDepth 100000 in
theorem m_takeOut0 {S : Hp} {w : Int} (hw : 0 ≤ w ∧ w < 3) (Q : Option MV → Hp → Prop) : Wc 138 [.inr (0, 30), .inl w, .inl 0] S Q = Q none (hr S 0 31 (toM (S 0 31) w)) := by
  refine Wc_eq ?_ Q
  unfold Wc
  refine vg_sound (fun _ _ => false) (fun m => m == 138 || m == 118 || m == 117) 400 _ _ _ _ _ _ ?_
  repeat' first | (with_reducible refine vT ?_ ?_; · omega) | (with_reducible refine vF ?_ ?_; · omega) | (with_reducible refine vI (fun _ => ?_) (fun _ => ?_)) | (simp (config := {maxSteps := 1000000}) (disch := (first | assumption | omega | (rw [hr_at]; assumption) | (rw [hr_at]; omega))) only [f_X8_takeOut, f_X8_put, f_X8_at, wg_0, wg_s, wK_none, wK_N, wK_C, wK_R, wQ_some, wQ_none, stR, mZ, mC, stI, ini, mL, gI, gA, sI, sA, bi, gF, pF, kF, kT, kL, c2, mT, mR, f4, tsw, lsw, tgt, inR, Nat.reduceLT, Nat.reduceLeDiff, Nat.reduceEqDiff, Nat.reduceAdd, Nat.reduceSub, ↓reduceIte, Bool.false_eq_true, List.map_cons, List.map_nil, List.length_cons, List.length_nil, List.replicate, List.cons_append, List.nil_append, List.getElem?_cons_zero, List.getElem?_cons_succ, List.set, List.take_succ_cons, List.take_zero, List.drop_succ_cons, List.drop_zero, List.reverse_cons, List.reverse_nil, Int.reduceLE, Int.reduceLT, Int.reduceNeg, Int.reduceToNat, true_and, and_true, and_self, beq_iff_eq, Bool.and_eq_true, Bool.or_eq_true, or_false, false_or, or_true, true_or, and_false, false_and, hu_hr, hr_hr, hr_at, hr_nc, not_false_eq_true, Int.reduceEq, Int.pow_zero, Int.reducePow, Int.reduceMul, Int.reduceAdd, Int.reduceDiv, Int.reduceMod, Int.zero_add, Int.add_zero, Int.mul_one, m_more])
  trivial
def svM (M : Int → Int) (w : Int) : Int → Int :=
  if 0 < reM (toM M w) w (M (8 + 15 * w + 1)) then awM (toM M w) w (reM (toM M w) w (M (8 + 15 * w + 1)))
  else if toM M w 5 = 1 ∧ ¬ M (8 + 15 * w + 1) % 3 = w then up (up (sdM (toM M w) 1 (M (8 + 15 * w + 1) % 3) w (M (8 + 15 * w + 1))) (8 + 15 * w + 9) (M (8 + 15 * w + 1) + 1)) (8 + 15 * w + 10) 0
  else payM (toM M w) w (M (8 + 15 * w + 1))
set_option maxHeartbeats 4000000 in
set_option maxRecDepth 100000 in
theorem to_ne {M : Int → Int} {w j : Int} (h : j < 8 + 15 * w ∨ 8 + 15 * w + 8 < j) : toM M w j = M j := by
  simp only [toM, moM]
  repeat rw [up_ne (by omega)]
set_option maxHeartbeats 4000000 in
set_option maxRecDepth 100000 in
theorem re_b (M : Int → Int) (w t : Int) : 0 ≤ reM M w t ∧ reM M w t ≤ 5 := by
  unfold reM
  repeat' split
  all_goals omega
set_option maxHeartbeats 4000000 in
set_option maxRecDepth 100000 in
theorem m_serve {S : Hp} {w : Int} (hF : FlB (S 0 31)) (hW : DrW (S 0 31)) (h5 : 0 ≤ S 0 31 5 ∧ S 0 31 5 ≤ 2) (hn : 0 ≤ S 0 31 2 ∧ S 0 31 2 < 255) (hw : 0 ≤ w ∧ w < 3) (ht : 0 ≤ S 0 31 (8 + 15 * w + 1) ∧ S 0 31 (8 + 15 * w + 1) < 600) (Q : Option MV → Hp → Prop) : Wc 139 [.inr (0, 30), .inl w] S Q = Q none (hr S 0 31 (svM (S 0 31) w)) := by
  refine Wc_eq ?_ Q
  unfold Wc
  have hF1 : FlB (toM (S 0 31) w) := fun t h1 h2 => by rw [to_ne (by omega)]; exact hF t h1 h2
  have hW1 : DrW (toM (S 0 31) w) := fun t h1 h2 => by rw [to_ne (by omega), to_ne (by omega)]; exact hW t h1 h2
  have h51 := to_ne (M := S 0 31) (w := w) (j := 5) (by omega)
  have h21 := to_ne (M := S 0 31) (w := w) (j := 2) (by omega)
  have hre := re_b (toM (S 0 31) w) w (S 0 31 (8 + 15 * w + 1))
  refine vg_sound (fun _ _ => false) (fun m => m == 139 || m == 117 || m == 118) 120 _ _ _ _ _ _ ?_
  repeat' first | (with_reducible refine vT ?_ ?_; · omega) | (with_reducible refine vF ?_ ?_; · omega) | (with_reducible refine vI (fun _ => ?_) (fun _ => ?_)) | (simp (config := {maxSteps := 1000000}) (disch := (first | assumption | omega | (rw [hr_at]; assumption) | (rw [hr_at]; omega))) only [f_X8_serve, f_X8_at, f_X8_put, wg_0, wg_s, wK_none, wK_N, wK_C, wK_R, wQ_some, wQ_none, stR, mZ, mC, stI, ini, mL, gI, gA, sI, sA, bi, gF, pF, kF, kT, kL, c2, mT, mR, f4, tsw, lsw, tgt, inR, Nat.reduceLT, Nat.reduceLeDiff, Nat.reduceEqDiff, Nat.reduceAdd, Nat.reduceSub, ↓reduceIte, Bool.false_eq_true, List.map_cons, List.map_nil, List.length_cons, List.length_nil, List.replicate, List.cons_append, List.nil_append, List.getElem?_cons_zero, List.getElem?_cons_succ, List.set, List.take_succ_cons, List.take_zero, List.drop_succ_cons, List.drop_zero, List.reverse_cons, List.reverse_nil, Int.reduceLE, Int.reduceLT, Int.reduceNeg, Int.reduceToNat, true_and, and_true, and_self, beq_iff_eq, Bool.and_eq_true, Bool.or_eq_true, or_false, false_or, or_true, true_or, and_false, false_and, hu_hr, hr_hr, hr_at, hr_nc, not_false_eq_true, Int.reduceEq, Int.pow_zero, Int.reducePow, Int.reduceMul, Int.reduceAdd, Int.reduceDiv, Int.reduceMod, Int.zero_add, Int.add_zero, Int.mul_one, m_takeOut0, m_reason, m_sendAway, m_send, m_pay, hF, hW])
  all_goals unfold svM
  all_goals (repeat (first | rw [if_pos (by omega)] | rw [if_neg (by omega)]))
