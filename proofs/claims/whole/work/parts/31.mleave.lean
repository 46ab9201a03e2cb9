/-! THE REFERENCE's row: a customer goes -/
def tsM (M : Int → Int) (w r : Int) : Nat → (Int → Int)
  | 0 => M
  | j + 1 => up (tsM M w r j) (8 + 15 * w + (1 + (r + (j : Int)))) (tsM M w r j (8 + 15 * w + (1 + (r + (j : Int)) + 1)))
set_option maxHeartbeats 4000000 in
set_option maxRecDepth 100000 in
theorem ts_step {S : Hp} {w r z : Int} {Q : Option MV → Hp → Prop} (hw : 0 ≤ w ∧ w < 3) (hz : 0 ≤ z ∧ z < 7) (h : Wp 138 9 [some (.inr (0, 30)), some (.inl w), some (.inl r), some (.inl (z + 1))] [] (hr S 0 31 (up (S 0 31) (8 + 15 * w + (1 + z)) (S 0 31 (8 + 15 * w + (1 + z + 1))))) Q) : Wp 138 9 [some (.inr (0, 30)), some (.inl w), some (.inl r), some (.inl z)] [] S Q := by
  refine vg_cut (fun m pc => (m == 138 && pc == 9)) (fun m => m == 138 || m == 118 || m == 117) 40 _ _ _ _ _ _ ?_
  repeat' first | (with_reducible refine vT ?_ ?_; · omega) | (with_reducible refine vF ?_ ?_; · omega) | (with_reducible refine vI (fun _ => ?_) (fun _ => ?_)) | (simp (config := {maxSteps := 1000000}) (disch := (first | assumption | omega | (rw [hr_at]; assumption) | (rw [hr_at]; omega))) only [f_X8_takeOut, f_X8_put, f_X8_at, wg_0, wg_s, wK_none, wK_N, wK_C, wK_R, wQ_some, wQ_none, stR, mZ, mC, stI, ini, mL, gI, gA, sI, sA, bi, gF, pF, kF, kT, kL, c2, mT, mR, f4, tsw, lsw, tgt, inR, Nat.reduceLT, Nat.reduceLeDiff, Nat.reduceEqDiff, Nat.reduceAdd, Nat.reduceSub, ↓reduceIte, Bool.false_eq_true, List.map_cons, List.map_nil, List.length_cons, List.length_nil, List.replicate, List.cons_append, List.nil_append, List.getElem?_cons_zero, List.getElem?_cons_succ, List.set, List.take_succ_cons, List.take_zero, List.drop_succ_cons, List.drop_zero, List.reverse_cons, List.reverse_nil, Int.reduceLE, Int.reduceLT, Int.reduceNeg, Int.reduceToNat, true_and, and_true, and_self, beq_iff_eq, Bool.and_eq_true, Bool.or_eq_true, or_false, false_or, or_true, true_or, and_false, false_and, hu_hr, hr_hr, hr_at, hr_nc, not_false_eq_true, Int.reduceEq, Int.pow_zero, Int.reducePow, Int.reduceMul, Int.reduceAdd, Int.reduceDiv, Int.reduceMod, Int.zero_add, Int.add_zero, Int.mul_one])
  exact h
set_option maxHeartbeats 4000000 in
set_option maxRecDepth 100000 in
theorem ts_end {S : Hp} {w r : Int} {Q : Option MV → Hp → Prop} (hw : 0 ≤ w ∧ w < 3) (h : Q none (hr S 0 31 (up (S 0 31) (8 + 15 * w + 8) 0))) : Wp 138 9 [some (.inr (0, 30)), some (.inl w), some (.inl r), some (.inl 7)] [] S Q := by
  refine vg_cut (fun m pc => (m == 138 && pc == 9)) (fun m => m == 138 || m == 118 || m == 117) 40 _ _ _ _ _ _ ?_
  repeat' first | (with_reducible refine vT ?_ ?_; · omega) | (with_reducible refine vF ?_ ?_; · omega) | (with_reducible refine vI (fun _ => ?_) (fun _ => ?_)) | (simp (config := {maxSteps := 1000000}) (disch := (first | assumption | omega | (rw [hr_at]; assumption) | (rw [hr_at]; omega))) only [f_X8_takeOut, f_X8_put, f_X8_at, wg_0, wg_s, wK_none, wK_N, wK_C, wK_R, wQ_some, wQ_none, stR, mZ, mC, stI, ini, mL, gI, gA, sI, sA, bi, gF, pF, kF, kT, kL, c2, mT, mR, f4, tsw, lsw, tgt, inR, Nat.reduceLT, Nat.reduceLeDiff, Nat.reduceEqDiff, Nat.reduceAdd, Nat.reduceSub, ↓reduceIte, Bool.false_eq_true, List.map_cons, List.map_nil, List.length_cons, List.length_nil, List.replicate, List.cons_append, List.nil_append, List.getElem?_cons_zero, List.getElem?_cons_succ, List.set, List.take_succ_cons, List.take_zero, List.drop_succ_cons, List.drop_zero, List.reverse_cons, List.reverse_nil, Int.reduceLE, Int.reduceLT, Int.reduceNeg, Int.reduceToNat, true_and, and_true, and_self, beq_iff_eq, Bool.and_eq_true, Bool.or_eq_true, or_false, false_or, or_true, true_or, and_false, false_and, hu_hr, hr_hr, hr_at, hr_nc, not_false_eq_true, Int.reduceEq, Int.pow_zero, Int.reducePow, Int.reduceMul, Int.reduceAdd, Int.reduceDiv, Int.reduceMod, Int.zero_add, Int.add_zero, Int.mul_one])
  exact h
def toR (M : Int → Int) (w r : Int) : Int → Int := up (tsM (moM M w 0 (-1)) w r (7 - r).toNat) (8 + 15 * w + 8) 0
set_option maxHeartbeats 4000000 in
set_option maxRecDepth 100000 in
theorem m_takeOut {S : Hp} {w r : Int} (hw : 0 ≤ w ∧ w < 3) (hr0 : 0 ≤ r ∧ r < 8) (Q : Option MV → Hp → Prop) : Wc 138 [.inr (0, 30), .inl w, .inl r] S Q = Q none (hr S 0 31 (toR (S 0 31) w r)) := by
  refine Wc_eq ?_ Q
  unfold Wc
  refine vg_sound (fun m pc => (m == 138 && pc == 9)) (fun m => m == 138) 30 _ _ _ _ _ _ ?_
  repeat' first | (with_reducible refine vT ?_ ?_; · omega) | (with_reducible refine vF ?_ ?_; · omega) | (with_reducible refine vI (fun _ => ?_) (fun _ => ?_)) | (simp (config := {maxSteps := 1000000}) (disch := (first | assumption | omega | (rw [hr_at]; assumption) | (rw [hr_at]; omega))) only [f_X8_takeOut, wg_0, wg_s, wK_none, wK_N, wK_C, wK_R, wQ_some, wQ_none, stR, mZ, mC, stI, ini, mL, gI, gA, sI, sA, bi, gF, pF, kF, kT, kL, c2, mT, mR, f4, tsw, lsw, tgt, inR, Nat.reduceLT, Nat.reduceLeDiff, Nat.reduceEqDiff, Nat.reduceAdd, Nat.reduceSub, ↓reduceIte, Bool.false_eq_true, List.map_cons, List.map_nil, List.length_cons, List.length_nil, List.replicate, List.cons_append, List.nil_append, List.getElem?_cons_zero, List.getElem?_cons_succ, List.set, List.take_succ_cons, List.take_zero, List.drop_succ_cons, List.drop_zero, List.reverse_cons, List.reverse_nil, Int.reduceLE, Int.reduceLT, Int.reduceNeg, Int.reduceToNat, true_and, and_true, and_self, beq_iff_eq, Bool.and_eq_true, Bool.or_eq_true, or_false, false_or, or_true, true_or, and_false, false_and, hu_hr, hr_hr, hr_at, hr_nc, not_false_eq_true, Int.reduceEq, Int.pow_zero, Int.reducePow, Int.reduceMul, Int.reduceAdd, Int.reduceDiv, Int.reduceMod, Int.zero_add, Int.add_zero, Int.mul_one, m_more])
  obtain ⟨N, hN⟩ : ∃ N : Nat, N = (7 - r).toNat := ⟨_, rfl⟩
  unfold toR
  rw [← hN]
  refine wp_for (fun j => [some (.inr (0, 30)), some (.inl w), some (.inl r), some (.inl (r + (j : Int)))]) (fun j => hr S 0 31 (tsM (moM (S 0 31) w 0 (-1)) w r j)) N (by simp) rfl (fun j hj h => ?_) ?_
  · refine ts_step hw (by omega) ?_
    rw [hr_hr, hr_at]
    rw [Int.natCast_add, ← Int.add_assoc] at h
    exact h
  · have e : r + (N : Int) = 7 := by omega
    rw [e]
    refine ts_end hw ?_
    rw [hr_hr, hr_at]
    exact ⟨rfl, rfl⟩
set_option maxHeartbeats 4000000 in
set_option maxRecDepth 100000 in
theorem leave_in {S : Hp} {t c w r : Int} {Q : Option MV → Hp → Prop} (hw : 0 ≤ w ∧ w < 3) (hr0 : 0 ≤ r ∧ r < 8) (ht : 0 ≤ t ∧ t < 600) (hs : 0 ≤ S 0 31 (8 + 15 * w + (1 + r)) ∧ S 0 31 (8 + 15 * w + (1 + r)) < 600)
    (h : Wp 153 19 [some (.inr (0, 30)), some (.inl t), some (.inl (if S 0 31 (8 + 15 * w + (1 + r)) = t then c + 1 else c)), some (.inl w), some (.inl (r + -1))] [] (hr S 0 31 (if S 0 31 (8 + 15 * w + (1 + r)) = t then toR (S 0 31) w r else S 0 31)) Q) : Wp 153 19 [some (.inr (0, 30)), some (.inl t), some (.inl c), some (.inl w), some (.inl r)] [] S Q := by
  refine vg_cut (fun m pc => (m == 153 && pc == 19)) (fun m => m == 153 || m == 117) 60 _ _ _ _ _ _ ?_
  repeat' first | (with_reducible refine vT ?_ ?_; · omega) | (with_reducible refine vF ?_ ?_; · omega) | (with_reducible refine vI (fun _ => ?_) (fun _ => ?_)) | (simp (config := {maxSteps := 1000000}) (disch := (first | assumption | omega | (rw [hr_at]; assumption) | (rw [hr_at]; omega))) only [f_X8_leaveNow, f_X8_at, wg_0, wg_s, wK_none, wK_N, wK_C, wK_R, wQ_some, wQ_none, stR, mZ, mC, stI, ini, mL, gI, gA, sI, sA, bi, gF, pF, kF, kT, kL, c2, mT, mR, f4, tsw, lsw, tgt, inR, Nat.reduceLT, Nat.reduceLeDiff, Nat.reduceEqDiff, Nat.reduceAdd, Nat.reduceSub, ↓reduceIte, Bool.false_eq_true, List.map_cons, List.map_nil, List.length_cons, List.length_nil, List.replicate, List.cons_append, List.nil_append, List.getElem?_cons_zero, List.getElem?_cons_succ, List.set, List.take_succ_cons, List.take_zero, List.drop_succ_cons, List.drop_zero, List.reverse_cons, List.reverse_nil, Int.reduceLE, Int.reduceLT, Int.reduceNeg, Int.reduceToNat, true_and, and_true, and_self, beq_iff_eq, Bool.and_eq_true, Bool.or_eq_true, or_false, false_or, or_true, true_or, and_false, false_and, hu_hr, hr_hr, hr_at, hr_nc, not_false_eq_true, Int.reduceEq, Int.pow_zero, Int.reducePow, Int.reduceMul, Int.reduceAdd, Int.reduceDiv, Int.reduceMod, Int.zero_add, Int.add_zero, Int.mul_one, m_takeOut])
  · next e => rw [if_pos e, if_pos e] at h; exact h
  · next e => rw [if_neg e, if_neg e, hr_id] at h; exact h
