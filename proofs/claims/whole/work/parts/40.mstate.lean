/-! THE REFERENCE: the text typed, states kept -/
set_option maxHeartbeats 4000000 in
set_option maxRecDepth 100000 in
theorem m_type {S : Hp} {z : Int} (hl : 0 ≤ S 0 30 7 ∧ S 0 30 7 ≤ 60) (hz : 0 ≤ z ∧ z < 65536) (Q : Option MV → Hp → Prop) : Wc 162 [.inr (0, 30), .inl z] S Q = Q (some (.inl (if S 0 30 7 = 60 then -3 else S 0 30 7 + 1))) (if S 0 30 7 = 60 then S else hr (hr S 0 35 (up (S 0 35) (S 0 30 7) z)) 0 30 (up (S 0 30) 7 (S 0 30 7 + 1))) := by
  refine Wc_eq ?_ Q
  unfold Wc
  by_cases h : S 0 30 7 = 60
  · rw [if_pos h, if_pos h]
    refine vg_sound (fun _ _ => false) (fun m => m == 162) 40 _ _ _ _ _ _ ?_
    repeat' first | (with_reducible refine vT ?_ ?_; · omega) | (with_reducible refine vF ?_ ?_; · omega) | (with_reducible refine vI (fun _ => ?_) (fun _ => ?_)) | (simp (config := {maxSteps := 1000000}) (disch := (first | assumption | omega | (rw [hr_at]; assumption) | (rw [hr_at]; omega))) only [f_X8_type, wg_0, wg_s, wK_none, wK_N, wK_C, wK_R, wQ_some, wQ_none, stR, mZ, mC, stI, ini, mL, gI, gA, sI, sA, bi, gF, pF, kF, kT, kL, c2, mT, mR, f4, tsw, lsw, tgt, inR, Nat.reduceLT, Nat.reduceLeDiff, Nat.reduceEqDiff, Nat.reduceAdd, Nat.reduceSub, ↓reduceIte, Bool.false_eq_true, List.map_cons, List.map_nil, List.length_cons, List.length_nil, List.replicate, List.cons_append, List.nil_append, List.getElem?_cons_zero, List.getElem?_cons_succ, List.set, List.take_succ_cons, List.take_zero, List.drop_succ_cons, List.drop_zero, List.reverse_cons, List.reverse_nil, Int.reduceLE, Int.reduceLT, Int.reduceNeg, Int.reduceToNat, true_and, and_true, and_self, beq_iff_eq, Bool.and_eq_true, Bool.or_eq_true, or_false, false_or, or_true, true_or, and_false, false_and, hu_hr, hr_hr, hr_at, hr_nc, not_false_eq_true, Int.reduceEq, Int.pow_zero, Int.reducePow, Int.reduceMul, Int.reduceAdd, Int.reduceDiv, Int.reduceMod, Int.zero_add, Int.add_zero, Int.mul_one, Int.cast_ofNat_Int, up_ap])
  · rw [if_neg h, if_neg h]
    refine vg_sound (fun _ _ => false) (fun m => m == 162) 40 _ _ _ _ _ _ ?_
    repeat' first | (with_reducible refine vT ?_ ?_; · omega) | (with_reducible refine vF ?_ ?_; · omega) | (with_reducible refine vI (fun _ => ?_) (fun _ => ?_)) | (simp (config := {maxSteps := 1000000}) (disch := (first | assumption | omega | (rw [hr_at]; assumption) | (rw [hr_at]; omega))) only [f_X8_type, wg_0, wg_s, wK_none, wK_N, wK_C, wK_R, wQ_some, wQ_none, stR, mZ, mC, stI, ini, mL, gI, gA, sI, sA, bi, gF, pF, kF, kT, kL, c2, mT, mR, f4, tsw, lsw, tgt, inR, Nat.reduceLT, Nat.reduceLeDiff, Nat.reduceEqDiff, Nat.reduceAdd, Nat.reduceSub, ↓reduceIte, Bool.false_eq_true, List.map_cons, List.map_nil, List.length_cons, List.length_nil, List.replicate, List.cons_append, List.nil_append, List.getElem?_cons_zero, List.getElem?_cons_succ, List.set, List.take_succ_cons, List.take_zero, List.drop_succ_cons, List.drop_zero, List.reverse_cons, List.reverse_nil, Int.reduceLE, Int.reduceLT, Int.reduceNeg, Int.reduceToNat, true_and, and_true, and_self, beq_iff_eq, Bool.and_eq_true, Bool.or_eq_true, or_false, false_or, or_true, true_or, and_false, false_and, hu_hr, hr_hr, hr_at, hr_nc, not_false_eq_true, Int.reduceEq, Int.pow_zero, Int.reducePow, Int.reduceMul, Int.reduceAdd, Int.reduceDiv, Int.reduceMod, Int.zero_add, Int.add_zero, Int.mul_one, Int.cast_ofNat_Int, up_ap])
set_option maxHeartbeats 4000000 in
set_option maxRecDepth 100000 in
theorem m_clearText {S : Hp} (Q : Option MV → Hp → Prop) : Wc 163 [.inr (0, 30)] S Q = Q (some (.inl (S 0 30 7))) (hr S 0 30 (up (S 0 30) 7 0)) := by
  refine Wc_eq ?_ Q
  unfold Wc
  refine vg_sound (fun _ _ => false) (fun m => m == 163) 40 _ _ _ _ _ _ ?_
  repeat' first | (with_reducible refine vT ?_ ?_; · omega) | (with_reducible refine vF ?_ ?_; · omega) | (with_reducible refine vI (fun _ => ?_) (fun _ => ?_)) | (simp (config := {maxSteps := 1000000}) (disch := (first | assumption | omega | (rw [hr_at]; assumption) | (rw [hr_at]; omega))) only [f_X8_clearText, wg_0, wg_s, wK_none, wK_N, wK_C, wK_R, wQ_some, wQ_none, stR, mZ, mC, stI, ini, mL, gI, gA, sI, sA, bi, gF, pF, kF, kT, kL, c2, mT, mR, f4, tsw, lsw, tgt, inR, Nat.reduceLT, Nat.reduceLeDiff, Nat.reduceEqDiff, Nat.reduceAdd, Nat.reduceSub, ↓reduceIte, Bool.false_eq_true, List.map_cons, List.map_nil, List.length_cons, List.length_nil, List.replicate, List.cons_append, List.nil_append, List.getElem?_cons_zero, List.getElem?_cons_succ, List.set, List.take_succ_cons, List.take_zero, List.drop_succ_cons, List.drop_zero, List.reverse_cons, List.reverse_nil, Int.reduceLE, Int.reduceLT, Int.reduceNeg, Int.reduceToNat, true_and, and_true, and_self, beq_iff_eq, Bool.and_eq_true, Bool.or_eq_true, or_false, false_or, or_true, true_or, and_false, false_and, hu_hr, hr_hr, hr_at, hr_nc, not_false_eq_true, Int.reduceEq, Int.pow_zero, Int.reducePow, Int.reduceMul, Int.reduceAdd, Int.reduceDiv, Int.reduceMod, Int.zero_add, Int.add_zero, Int.mul_one, Int.cast_ofNat_Int, up_ap])
set_option maxHeartbeats 4000000 in
set_option maxRecDepth 100000 in
theorem un_step {S : Hp} {z : Int} {Q : Option MV → Hp → Prop} (hk : 0 ≤ S 0 30 6 ∧ S 0 30 6 < 4) (hz : 0 ≤ z ∧ z < 3833) (h : Wp 172 22 [some (.inr (0, 30)), some (.inl (z + 1))] [] (hr S 0 31 (up (S 0 31) z (S 0 34 (3833 * S 0 30 6 + z)))) Q) : Wp 172 22 [some (.inr (0, 30)), some (.inl z)] [] S Q := by
  refine vg_cut (fun m pc => (m == 172 && pc == 22)) (fun m => m == 172) 40 _ _ _ _ _ _ ?_
  repeat' first | (with_reducible refine vT ?_ ?_; · omega) | (with_reducible refine vF ?_ ?_; · omega) | (with_reducible refine vI (fun _ => ?_) (fun _ => ?_)) | (simp (config := {maxSteps := 1000000}) (disch := (first | assumption | omega | (rw [hr_at]; assumption) | (rw [hr_at]; omega))) only [f_X8_undo, wg_0, wg_s, wK_none, wK_N, wK_C, wK_R, wQ_some, wQ_none, stR, mZ, mC, stI, ini, mL, gI, gA, sI, sA, bi, gF, pF, kF, kT, kL, c2, mT, mR, f4, tsw, lsw, tgt, inR, Nat.reduceLT, Nat.reduceLeDiff, Nat.reduceEqDiff, Nat.reduceAdd, Nat.reduceSub, ↓reduceIte, Bool.false_eq_true, List.map_cons, List.map_nil, List.length_cons, List.length_nil, List.replicate, List.cons_append, List.nil_append, List.getElem?_cons_zero, List.getElem?_cons_succ, List.set, List.take_succ_cons, List.take_zero, List.drop_succ_cons, List.drop_zero, List.reverse_cons, List.reverse_nil, Int.reduceLE, Int.reduceLT, Int.reduceNeg, Int.reduceToNat, true_and, and_true, and_self, beq_iff_eq, Bool.and_eq_true, Bool.or_eq_true, or_false, false_or, or_true, true_or, and_false, false_and, hu_hr, hr_hr, hr_at, hr_nc, not_false_eq_true, Int.reduceEq, Int.pow_zero, Int.reducePow, Int.reduceMul, Int.reduceAdd, Int.reduceDiv, Int.reduceMod, Int.zero_add, Int.add_zero, Int.mul_one, Int.cast_ofNat_Int])
  exact h
set_option maxHeartbeats 4000000 in
set_option maxRecDepth 100000 in
theorem un_end {S : Hp} {Q : Option MV → Hp → Prop} (h : Q (some (.inl (S 0 30 6))) S) : Wp 172 22 [some (.inr (0, 30)), some (.inl 3833)] [] S Q := by
  refine vg_cut (fun m pc => (m == 172 && pc == 22)) (fun m => m == 172) 40 _ _ _ _ _ _ ?_
  repeat' first | (with_reducible refine vT ?_ ?_; · omega) | (with_reducible refine vF ?_ ?_; · omega) | (with_reducible refine vI (fun _ => ?_) (fun _ => ?_)) | (simp (config := {maxSteps := 1000000}) (disch := (first | assumption | omega | (rw [hr_at]; assumption) | (rw [hr_at]; omega))) only [f_X8_undo, wg_0, wg_s, wK_none, wK_N, wK_C, wK_R, wQ_some, wQ_none, stR, mZ, mC, stI, ini, mL, gI, gA, sI, sA, bi, gF, pF, kF, kT, kL, c2, mT, mR, f4, tsw, lsw, tgt, inR, Nat.reduceLT, Nat.reduceLeDiff, Nat.reduceEqDiff, Nat.reduceAdd, Nat.reduceSub, ↓reduceIte, Bool.false_eq_true, List.map_cons, List.map_nil, List.length_cons, List.length_nil, List.replicate, List.cons_append, List.nil_append, List.getElem?_cons_zero, List.getElem?_cons_succ, List.set, List.take_succ_cons, List.take_zero, List.drop_succ_cons, List.drop_zero, List.reverse_cons, List.reverse_nil, Int.reduceLE, Int.reduceLT, Int.reduceNeg, Int.reduceToNat, true_and, and_true, and_self, beq_iff_eq, Bool.and_eq_true, Bool.or_eq_true, or_false, false_or, or_true, true_or, and_false, false_and, hu_hr, hr_hr, hr_at, hr_nc, not_false_eq_true, Int.reduceEq, Int.pow_zero, Int.reducePow, Int.reduceMul, Int.reduceAdd, Int.reduceDiv, Int.reduceMod, Int.zero_add, Int.add_zero, Int.mul_one, Int.cast_ofNat_Int])
  exact h
set_option maxHeartbeats 4000000 in
set_option maxRecDepth 100000 in
theorem m_undo {S : Hp} (hk : 0 ≤ S 0 30 6 ∧ S 0 30 6 ≤ 4) (Q : Option MV → Hp → Prop) : Wc 172 [.inr (0, 30)] S Q = Q (some (.inl (if S 0 30 6 = 0 then -5 else S 0 30 6 - 1))) (if S 0 30 6 = 0 then S else hr (hr S 0 30 (up (S 0 30) 6 (S 0 30 6 - 1))) 0 31 (cpF (S 0 31) (fun j => S 0 34 (3833 * (S 0 30 6 - 1) + j)) 3833)) := by
  refine Wc_eq ?_ Q
  unfold Wc
  by_cases h : S 0 30 6 = 0
  · rw [if_pos h, if_pos h]
    refine vg_sound (fun m pc => (m == 172 && pc == 22)) (fun m => m == 172) 40 _ _ _ _ _ _ ?_
    repeat' first | (with_reducible refine vT ?_ ?_; · omega) | (with_reducible refine vF ?_ ?_; · omega) | (with_reducible refine vI (fun _ => ?_) (fun _ => ?_)) | (simp (config := {maxSteps := 1000000}) (disch := (first | assumption | omega | (rw [hr_at]; assumption) | (rw [hr_at]; omega))) only [f_X8_undo, wg_0, wg_s, wK_none, wK_N, wK_C, wK_R, wQ_some, wQ_none, stR, mZ, mC, stI, ini, mL, gI, gA, sI, sA, bi, gF, pF, kF, kT, kL, c2, mT, mR, f4, tsw, lsw, tgt, inR, Nat.reduceLT, Nat.reduceLeDiff, Nat.reduceEqDiff, Nat.reduceAdd, Nat.reduceSub, ↓reduceIte, Bool.false_eq_true, List.map_cons, List.map_nil, List.length_cons, List.length_nil, List.replicate, List.cons_append, List.nil_append, List.getElem?_cons_zero, List.getElem?_cons_succ, List.set, List.take_succ_cons, List.take_zero, List.drop_succ_cons, List.drop_zero, List.reverse_cons, List.reverse_nil, Int.reduceLE, Int.reduceLT, Int.reduceNeg, Int.reduceToNat, true_and, and_true, and_self, beq_iff_eq, Bool.and_eq_true, Bool.or_eq_true, or_false, false_or, or_true, true_or, and_false, false_and, hu_hr, hr_hr, hr_at, hr_nc, not_false_eq_true, Int.reduceEq, Int.pow_zero, Int.reducePow, Int.reduceMul, Int.reduceAdd, Int.reduceDiv, Int.reduceMod, Int.zero_add, Int.add_zero, Int.mul_one, Int.cast_ofNat_Int])
  · rw [if_neg h, if_neg h]
    refine vg_sound (fun m pc => (m == 172 && pc == 22)) (fun m => m == 172) 40 _ _ _ _ _ _ ?_
    repeat' first | (with_reducible refine vT ?_ ?_; · omega) | (with_reducible refine vF ?_ ?_; · omega) | (with_reducible refine vI (fun _ => ?_) (fun _ => ?_)) | (simp (config := {maxSteps := 1000000}) (disch := (first | assumption | omega | (rw [hr_at]; assumption) | (rw [hr_at]; omega))) only [f_X8_undo, wg_0, wg_s, wK_none, wK_N, wK_C, wK_R, wQ_some, wQ_none, stR, mZ, mC, stI, ini, mL, gI, gA, sI, sA, bi, gF, pF, kF, kT, kL, c2, mT, mR, f4, tsw, lsw, tgt, inR, Nat.reduceLT, Nat.reduceLeDiff, Nat.reduceEqDiff, Nat.reduceAdd, Nat.reduceSub, ↓reduceIte, Bool.false_eq_true, List.map_cons, List.map_nil, List.length_cons, List.length_nil, List.replicate, List.cons_append, List.nil_append, List.getElem?_cons_zero, List.getElem?_cons_succ, List.set, List.take_succ_cons, List.take_zero, List.drop_succ_cons, List.drop_zero, List.reverse_cons, List.reverse_nil, Int.reduceLE, Int.reduceLT, Int.reduceNeg, Int.reduceToNat, true_and, and_true, and_self, beq_iff_eq, Bool.and_eq_true, Bool.or_eq_true, or_false, false_or, or_true, true_or, and_false, false_and, hu_hr, hr_hr, hr_at, hr_nc, not_false_eq_true, Int.reduceEq, Int.pow_zero, Int.reducePow, Int.reduceMul, Int.reduceAdd, Int.reduceDiv, Int.reduceMod, Int.zero_add, Int.add_zero, Int.mul_one, Int.cast_ofNat_Int])
    obtain ⟨N, hN⟩ : ∃ N : Nat, N = 3833 := ⟨_, rfl⟩
    have e : (3833 : Int) = (N : Int) := by omega
    refine wp_for (fun j => [some (.inr (0, 30)), some (.inl (j : Int))]) (fun j => hr (hr S 0 30 (up (S 0 30) 6 (S 0 30 6 - 1))) 0 31 (cpF (S 0 31) (fun j => S 0 34 (3833 * (S 0 30 6 - 1) + j)) j)) N rfl (by rw [Int.ofNat_zero, cpF_0]; funext a b; unfold hr; by_cases h30 : a = 0 ∧ b = 30 <;> by_cases h31 : a = 0 ∧ b = 31 <;> simp [h30, h31]) (fun j hj h => ?_) ?_
    · refine un_step (by rw [hr_nc (by decide), hr_at, up_eq rfl]; omega) (by omega) ?_
      rw [hr_hr, hr_at, hr_nc (by decide), hr_nc (by decide), hr_nc (by decide), hr_at, up_eq rfl]
      have e2 := cpF_s (S 0 31) (fun j => S 0 34 (3833 * (S 0 30 6 - 1) + j)) (n := (j : Int)) (by omega)
      rw [e2]
      rw [Int.natCast_add] at h
      exact h
    · rw [← e]
      refine un_end ?_
      rw [hr_nc (by decide), hr_at, up_eq rfl]
      exact ⟨rfl, rfl⟩
set_option maxHeartbeats 4000000 in
set_option maxRecDepth 100000 in
theorem ke_step {S : Hp} {z : Int} {Q : Option MV → Hp → Prop} (hz : 0 ≤ z ∧ z < 3833) (h : Wp 173 2 [some (.inr (0, 30)), some (.inl (z + 1))] [] (hr S 0 32 (up (S 0 32) z (S 0 31 z))) Q) : Wp 173 2 [some (.inr (0, 30)), some (.inl z)] [] S Q := by
  refine vg_cut (fun m pc => (m == 173 && pc == 2)) (fun m => m == 173) 40 _ _ _ _ _ _ ?_
  repeat' first | (with_reducible refine vT ?_ ?_; · omega) | (with_reducible refine vF ?_ ?_; · omega) | (with_reducible refine vI (fun _ => ?_) (fun _ => ?_)) | (simp (config := {maxSteps := 1000000}) (disch := (first | assumption | omega | (rw [hr_at]; assumption) | (rw [hr_at]; omega))) only [f_X8_keep, wg_0, wg_s, wK_none, wK_N, wK_C, wK_R, wQ_some, wQ_none, stR, mZ, mC, stI, ini, mL, gI, gA, sI, sA, bi, gF, pF, kF, kT, kL, c2, mT, mR, f4, tsw, lsw, tgt, inR, Nat.reduceLT, Nat.reduceLeDiff, Nat.reduceEqDiff, Nat.reduceAdd, Nat.reduceSub, ↓reduceIte, Bool.false_eq_true, List.map_cons, List.map_nil, List.length_cons, List.length_nil, List.replicate, List.cons_append, List.nil_append, List.getElem?_cons_zero, List.getElem?_cons_succ, List.set, List.take_succ_cons, List.take_zero, List.drop_succ_cons, List.drop_zero, List.reverse_cons, List.reverse_nil, Int.reduceLE, Int.reduceLT, Int.reduceNeg, Int.reduceToNat, true_and, and_true, and_self, beq_iff_eq, Bool.and_eq_true, Bool.or_eq_true, or_false, false_or, or_true, true_or, and_false, false_and, hu_hr, hr_hr, hr_at, hr_nc, not_false_eq_true, Int.reduceEq, Int.pow_zero, Int.reducePow, Int.reduceMul, Int.reduceAdd, Int.reduceDiv, Int.reduceMod, Int.zero_add, Int.add_zero, Int.mul_one, Int.cast_ofNat_Int])
  exact h
set_option maxHeartbeats 4000000 in
set_option maxRecDepth 100000 in
theorem ke_end {S : Hp} {Q : Option MV → Hp → Prop} (h : Q (some (.inl (S 0 31 0))) (hr S 0 30 (up (S 0 30) 8 1))) : Wp 173 2 [some (.inr (0, 30)), some (.inl 3833)] [] S Q := by
  refine vg_cut (fun m pc => (m == 173 && pc == 2)) (fun m => m == 173) 40 _ _ _ _ _ _ ?_
  repeat' first | (with_reducible refine vT ?_ ?_; · omega) | (with_reducible refine vF ?_ ?_; · omega) | (with_reducible refine vI (fun _ => ?_) (fun _ => ?_)) | (simp (config := {maxSteps := 1000000}) (disch := (first | assumption | omega | (rw [hr_at]; assumption) | (rw [hr_at]; omega))) only [f_X8_keep, wg_0, wg_s, wK_none, wK_N, wK_C, wK_R, wQ_some, wQ_none, stR, mZ, mC, stI, ini, mL, gI, gA, sI, sA, bi, gF, pF, kF, kT, kL, c2, mT, mR, f4, tsw, lsw, tgt, inR, Nat.reduceLT, Nat.reduceLeDiff, Nat.reduceEqDiff, Nat.reduceAdd, Nat.reduceSub, ↓reduceIte, Bool.false_eq_true, List.map_cons, List.map_nil, List.length_cons, List.length_nil, List.replicate, List.cons_append, List.nil_append, List.getElem?_cons_zero, List.getElem?_cons_succ, List.set, List.take_succ_cons, List.take_zero, List.drop_succ_cons, List.drop_zero, List.reverse_cons, List.reverse_nil, Int.reduceLE, Int.reduceLT, Int.reduceNeg, Int.reduceToNat, true_and, and_true, and_self, beq_iff_eq, Bool.and_eq_true, Bool.or_eq_true, or_false, false_or, or_true, true_or, and_false, false_and, hu_hr, hr_hr, hr_at, hr_nc, not_false_eq_true, Int.reduceEq, Int.pow_zero, Int.reducePow, Int.reduceMul, Int.reduceAdd, Int.reduceDiv, Int.reduceMod, Int.zero_add, Int.add_zero, Int.mul_one, Int.cast_ofNat_Int])
  exact h
set_option maxHeartbeats 4000000 in
set_option maxRecDepth 100000 in
theorem m_keep {S : Hp} (Q : Option MV → Hp → Prop) : Wc 173 [.inr (0, 30)] S Q = Q (some (.inl (S 0 31 0))) (hr (hr S 0 32 (cpF (S 0 32) (S 0 31) 3833)) 0 30 (up (S 0 30) 8 1)) := by
  refine Wc_eq ?_ Q
  unfold Wc
  refine vg_sound (fun m pc => (m == 173 && pc == 2)) (fun m => m == 173) 10 _ _ _ _ _ _ ?_
  repeat' first | (with_reducible refine vT ?_ ?_; · omega) | (with_reducible refine vF ?_ ?_; · omega) | (with_reducible refine vI (fun _ => ?_) (fun _ => ?_)) | (simp (config := {maxSteps := 1000000}) only [f_X8_keep, wg_0, wg_s, wK_none, wK_N, wK_C, wK_R, wQ_some, wQ_none, stR, mZ, mC, stI, ini, mL, gI, gA, sI, sA, bi, gF, pF, kF, kT, kL, c2, mT, mR, f4, tsw, lsw, tgt, inR, Nat.reduceLT, Nat.reduceLeDiff, Nat.reduceEqDiff, Nat.reduceAdd, Nat.reduceSub, ↓reduceIte, Bool.false_eq_true, List.map_cons, List.map_nil, List.length_cons, List.length_nil, List.replicate, List.cons_append, List.nil_append, List.getElem?_cons_zero, List.getElem?_cons_succ, List.set, List.take_succ_cons, List.take_zero, List.drop_succ_cons, List.drop_zero, List.reverse_cons, List.reverse_nil, Int.reduceLE, Int.reduceLT, Int.reduceNeg, Int.reduceToNat, true_and, and_true, and_self, beq_iff_eq, Bool.and_eq_true, Bool.or_eq_true, or_false, false_or, or_true, true_or, and_false, false_and, hu_hr, hr_hr, hr_at, hr_nc, not_false_eq_true, Int.reduceEq, Int.pow_zero, Int.reducePow, Int.reduceMul, Int.reduceAdd, Int.reduceDiv, Int.reduceMod, Int.zero_add, Int.add_zero, Int.mul_one, Int.cast_ofNat_Int])
  obtain ⟨N, hN⟩ : ∃ N : Nat, N = 3833 := ⟨_, rfl⟩
  have e : (3833 : Int) = (N : Int) := by omega
  rw [e]
  refine wp_for (fun j => [some (.inr (0, 30)), some (.inl (j : Int))]) (fun j => hr S 0 32 (cpF (S 0 32) (S 0 31) j)) N rfl (by rw [Int.ofNat_zero, cpF_0, hr_id]) (fun j hj h => ?_) ?_
  · refine ke_step (by omega) ?_
    rw [hr_hr, hr_at, hr_nc (by decide), cpF_s _ _ (by omega)]
    rw [Int.natCast_add] at h
    exact h
  · rw [← e]
    refine ke_end ?_
    rw [hr_nc (by decide), hr_nc (by decide)]
    exact ⟨rfl, rfl⟩
set_option maxHeartbeats 4000000 in
set_option maxRecDepth 100000 in
theorem rs_step {S : Hp} {z : Int} {Q : Option MV → Hp → Prop} (hz : 0 ≤ z ∧ z < 3833) (h : Wp 174 16 [some (.inr (0, 30)), some (.inl (z + 1))] [] (hr S 0 31 (up (S 0 31) z (S 0 32 z))) Q) : Wp 174 16 [some (.inr (0, 30)), some (.inl z)] [] S Q := by
  refine vg_cut (fun m pc => (m == 174 && pc == 16)) (fun m => m == 174) 40 _ _ _ _ _ _ ?_
  repeat' first | (with_reducible refine vT ?_ ?_; · omega) | (with_reducible refine vF ?_ ?_; · omega) | (with_reducible refine vI (fun _ => ?_) (fun _ => ?_)) | (simp (config := {maxSteps := 1000000}) (disch := (first | assumption | omega | (rw [hr_at]; assumption) | (rw [hr_at]; omega))) only [f_X8_restore, wg_0, wg_s, wK_none, wK_N, wK_C, wK_R, wQ_some, wQ_none, stR, mZ, mC, stI, ini, mL, gI, gA, sI, sA, bi, gF, pF, kF, kT, kL, c2, mT, mR, f4, tsw, lsw, tgt, inR, Nat.reduceLT, Nat.reduceLeDiff, Nat.reduceEqDiff, Nat.reduceAdd, Nat.reduceSub, ↓reduceIte, Bool.false_eq_true, List.map_cons, List.map_nil, List.length_cons, List.length_nil, List.replicate, List.cons_append, List.nil_append, List.getElem?_cons_zero, List.getElem?_cons_succ, List.set, List.take_succ_cons, List.take_zero, List.drop_succ_cons, List.drop_zero, List.reverse_cons, List.reverse_nil, Int.reduceLE, Int.reduceLT, Int.reduceNeg, Int.reduceToNat, true_and, and_true, and_self, beq_iff_eq, Bool.and_eq_true, Bool.or_eq_true, or_false, false_or, or_true, true_or, and_false, false_and, hu_hr, hr_hr, hr_at, hr_nc, not_false_eq_true, Int.reduceEq, Int.pow_zero, Int.reducePow, Int.reduceMul, Int.reduceAdd, Int.reduceDiv, Int.reduceMod, Int.zero_add, Int.add_zero, Int.mul_one, Int.cast_ofNat_Int])
  exact h
set_option maxHeartbeats 4000000 in
set_option maxRecDepth 100000 in
theorem rs_end {S : Hp} {Q : Option MV → Hp → Prop} (h : Q (some (.inl (S 0 31 0))) S) : Wp 174 16 [some (.inr (0, 30)), some (.inl 3833)] [] S Q := by
  refine vg_cut (fun m pc => (m == 174 && pc == 16)) (fun m => m == 174) 40 _ _ _ _ _ _ ?_
  repeat' first | (with_reducible refine vT ?_ ?_; · omega) | (with_reducible refine vF ?_ ?_; · omega) | (with_reducible refine vI (fun _ => ?_) (fun _ => ?_)) | (simp (config := {maxSteps := 1000000}) (disch := (first | assumption | omega | (rw [hr_at]; assumption) | (rw [hr_at]; omega))) only [f_X8_restore, wg_0, wg_s, wK_none, wK_N, wK_C, wK_R, wQ_some, wQ_none, stR, mZ, mC, stI, ini, mL, gI, gA, sI, sA, bi, gF, pF, kF, kT, kL, c2, mT, mR, f4, tsw, lsw, tgt, inR, Nat.reduceLT, Nat.reduceLeDiff, Nat.reduceEqDiff, Nat.reduceAdd, Nat.reduceSub, ↓reduceIte, Bool.false_eq_true, List.map_cons, List.map_nil, List.length_cons, List.length_nil, List.replicate, List.cons_append, List.nil_append, List.getElem?_cons_zero, List.getElem?_cons_succ, List.set, List.take_succ_cons, List.take_zero, List.drop_succ_cons, List.drop_zero, List.reverse_cons, List.reverse_nil, Int.reduceLE, Int.reduceLT, Int.reduceNeg, Int.reduceToNat, true_and, and_true, and_self, beq_iff_eq, Bool.and_eq_true, Bool.or_eq_true, or_false, false_or, or_true, true_or, and_false, false_and, hu_hr, hr_hr, hr_at, hr_nc, not_false_eq_true, Int.reduceEq, Int.pow_zero, Int.reducePow, Int.reduceMul, Int.reduceAdd, Int.reduceDiv, Int.reduceMod, Int.zero_add, Int.add_zero, Int.mul_one, Int.cast_ofNat_Int])
  exact h
set_option maxHeartbeats 4000000 in
set_option maxRecDepth 100000 in
theorem m_restore {S : Hp} (hk : 0 ≤ S 0 30 6 ∧ S 0 30 6 ≤ 4) (h8 : S 0 30 8 = 0 ∨ S 0 30 8 = 1) (Q : Option MV → Hp → Prop) : Wc 174 [.inr (0, 30)] S Q = Q (some (.inl (if S 0 30 8 = 0 then -5 else S 0 32 0))) (if S 0 30 8 = 0 then S else hr (rcS S (S 0 31)) 0 31 (cpF (S 0 31) (S 0 32) 3833)) := by
  refine Wc_eq ?_ Q
  unfold Wc
  by_cases h : S 0 30 8 = 0
  · rw [if_pos h, if_pos h]
    refine vg_sound (fun m pc => (m == 174 && pc == 16)) (fun m => m == 174) 40 _ _ _ _ _ _ ?_
    repeat' first | (with_reducible refine vT ?_ ?_; · omega) | (with_reducible refine vF ?_ ?_; · omega) | (with_reducible refine vI (fun _ => ?_) (fun _ => ?_)) | (simp (config := {maxSteps := 1000000}) (disch := (first | assumption | omega | (rw [hr_at]; assumption) | (rw [hr_at]; omega))) only [f_X8_restore, wg_0, wg_s, wK_none, wK_N, wK_C, wK_R, wQ_some, wQ_none, stR, mZ, mC, stI, ini, mL, gI, gA, sI, sA, bi, gF, pF, kF, kT, kL, c2, mT, mR, f4, tsw, lsw, tgt, inR, Nat.reduceLT, Nat.reduceLeDiff, Nat.reduceEqDiff, Nat.reduceAdd, Nat.reduceSub, ↓reduceIte, Bool.false_eq_true, List.map_cons, List.map_nil, List.length_cons, List.length_nil, List.replicate, List.cons_append, List.nil_append, List.getElem?_cons_zero, List.getElem?_cons_succ, List.set, List.take_succ_cons, List.take_zero, List.drop_succ_cons, List.drop_zero, List.reverse_cons, List.reverse_nil, Int.reduceLE, Int.reduceLT, Int.reduceNeg, Int.reduceToNat, true_and, and_true, and_self, beq_iff_eq, Bool.and_eq_true, Bool.or_eq_true, or_false, false_or, or_true, true_or, and_false, false_and, hu_hr, hr_hr, hr_at, hr_nc, not_false_eq_true, Int.reduceEq, Int.pow_zero, Int.reducePow, Int.reduceMul, Int.reduceAdd, Int.reduceDiv, Int.reduceMod, Int.zero_add, Int.add_zero, Int.mul_one, Int.cast_ofNat_Int])
  · rw [if_neg h, if_neg h]
    have r1 : ∀ Q : Option MV → Hp → Prop, Wc 110 [.inr (0, 30)] S Q = Q none (rcS S (S 0 31)) := fun Q => m_record (S := S) hk Q
    have e31 : rcS S (S 0 31) 0 31 = S 0 31 := by unfold rcS; rw [hr_nc (by decide), hr_nc (by decide)]
    have e32 : rcS S (S 0 31) 0 32 = S 0 32 := by unfold rcS; rw [hr_nc (by decide), hr_nc (by decide)]
    have e0 : hr (rcS S (S 0 31)) 0 31 (S 0 31) = rcS S (S 0 31) := by
      have q := hr_id (rcS S (S 0 31)) 0 31
      rw [e31] at q
      exact q
    refine vg_sound (fun m pc => (m == 174 && pc == 16)) (fun m => m == 174) 40 _ _ _ _ _ _ ?_
    repeat' first | (with_reducible refine vT ?_ ?_; · omega) | (with_reducible refine vF ?_ ?_; · omega) | (with_reducible refine vI (fun _ => ?_) (fun _ => ?_)) | (simp (config := {maxSteps := 1000000}) (disch := (first | assumption | omega | (rw [hr_at]; assumption) | (rw [hr_at]; omega))) only [f_X8_restore, wg_0, wg_s, wK_none, wK_N, wK_C, wK_R, wQ_some, wQ_none, stR, mZ, mC, stI, ini, mL, gI, gA, sI, sA, bi, gF, pF, kF, kT, kL, c2, mT, mR, f4, tsw, lsw, tgt, inR, Nat.reduceLT, Nat.reduceLeDiff, Nat.reduceEqDiff, Nat.reduceAdd, Nat.reduceSub, ↓reduceIte, Bool.false_eq_true, List.map_cons, List.map_nil, List.length_cons, List.length_nil, List.replicate, List.cons_append, List.nil_append, List.getElem?_cons_zero, List.getElem?_cons_succ, List.set, List.take_succ_cons, List.take_zero, List.drop_succ_cons, List.drop_zero, List.reverse_cons, List.reverse_nil, Int.reduceLE, Int.reduceLT, Int.reduceNeg, Int.reduceToNat, true_and, and_true, and_self, beq_iff_eq, Bool.and_eq_true, Bool.or_eq_true, or_false, false_or, or_true, true_or, and_false, false_and, hu_hr, hr_hr, hr_at, hr_nc, not_false_eq_true, Int.reduceEq, Int.pow_zero, Int.reducePow, Int.reduceMul, Int.reduceAdd, Int.reduceDiv, Int.reduceMod, Int.zero_add, Int.add_zero, Int.mul_one, Int.cast_ofNat_Int, r1])
    obtain ⟨N, hN⟩ : ∃ N : Nat, N = 3833 := ⟨_, rfl⟩
    have e : (3833 : Int) = (N : Int) := by omega
    rw [e]
    refine wp_for (fun j => [some (.inr (0, 30)), some (.inl (j : Int))]) (fun j => hr (rcS S (S 0 31)) 0 31 (cpF (S 0 31) (S 0 32) j)) N rfl (by rw [Int.ofNat_zero, cpF_0]; exact e0.symm) (fun j hj h => ?_) ?_
    · refine rs_step (by omega) ?_
      rw [hr_hr, hr_at, hr_nc (by decide), e32, cpF_s _ _ (by omega)]
      rw [Int.natCast_add] at h
      exact h
    · rw [← e]
      refine rs_end ?_
      rw [hr_at, cpF_in (by decide)]
      exact ⟨rfl, rfl⟩
def shI (M : Int → Int) (w : Int) : Int := 2 * M (8 + 15 * w) + (if 0 < M (8 + 15 * w + 9) then 1 else 0)
def shV (M : Int → Int) : Int := if shI M 1 < shI M 0 then (if shI M 2 < shI M 1 then 2 else 1) else (if shI M 2 < shI M 0 then 2 else 0)
set_option maxHeartbeats 4000000 in
set_option maxRecDepth 100000 in
theorem m_shortest {S : Hp} (hB : ∀ w : Int, 0 ≤ w → w < 3 → (0 ≤ S 0 31 (8 + 15 * w) ∧ S 0 31 (8 + 15 * w) ≤ 8) ∧ 0 ≤ S 0 31 (8 + 15 * w + 9) ∧ S 0 31 (8 + 15 * w + 9) ≤ 600) (Q : Option MV → Hp → Prop) : Wc 188 [.inr (0, 30)] S Q = Q (some (.inl (shV (S 0 31)))) S := by
  refine Wc_eq ?_ Q
  unfold Wc
  have b0 := hB 0 (by omega) (by omega)
  have b1 := hB 1 (by omega) (by omega)
  have b2 := hB 2 (by omega) (by omega)
  simp only [Int.reduceMul, Int.reduceAdd, Int.add_zero, Int.mul_one] at b0 b1 b2
  obtain ⟨v, hv⟩ : ∃ v, v = shV (S 0 31) := ⟨_, rfl⟩
  rw [← hv]
  unfold shV shI at hv
  simp only [Int.reduceMul, Int.reduceAdd, Int.add_zero, Int.mul_one] at hv
  refine vg_sound (fun _ _ => false) (fun m => m == 188 || m == 117) 200 _ _ _ _ _ _ ?_
  repeat' first | (with_reducible refine vT ?_ ?_; · omega) | (with_reducible refine vF ?_ ?_; · omega) | (with_reducible refine vI (fun _ => ?_) (fun _ => ?_)) | (simp (config := {maxSteps := 1000000}) (disch := (first | assumption | omega | (rw [hr_at]; assumption) | (rw [hr_at]; omega))) only [f_X8_shortest, f_X8_at, wg_0, wg_s, wK_none, wK_N, wK_C, wK_R, wQ_some, wQ_none, stR, mZ, mC, stI, ini, mL, gI, gA, sI, sA, bi, gF, pF, kF, kT, kL, c2, mT, mR, f4, tsw, lsw, tgt, inR, Nat.reduceLT, Nat.reduceLeDiff, Nat.reduceEqDiff, Nat.reduceAdd, Nat.reduceSub, ↓reduceIte, Bool.false_eq_true, List.map_cons, List.map_nil, List.length_cons, List.length_nil, List.replicate, List.cons_append, List.nil_append, List.getElem?_cons_zero, List.getElem?_cons_succ, List.set, List.take_succ_cons, List.take_zero, List.drop_succ_cons, List.drop_zero, List.reverse_cons, List.reverse_nil, Int.reduceLE, Int.reduceLT, Int.reduceNeg, Int.reduceToNat, true_and, and_true, and_self, beq_iff_eq, Bool.and_eq_true, Bool.or_eq_true, or_false, false_or, or_true, true_or, and_false, false_and, hu_hr, hr_hr, hr_at, hr_nc, not_false_eq_true, Int.reduceEq, Int.pow_zero, Int.reducePow, Int.reduceMul, Int.reduceAdd, Int.reduceDiv, Int.reduceMod, Int.zero_add, Int.add_zero, Int.mul_one, Int.cast_ofNat_Int])
  all_goals (simp only [Option.some.injEq, Sum.inl.injEq])
  all_goals (repeat (first | rw [if_pos (by omega)] at hv | rw [if_neg (by omega)] at hv))
  all_goals (first | exact hv.symm | omega)
