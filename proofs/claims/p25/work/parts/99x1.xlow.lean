/-! THE LAW: low, cell, same -/
def lwV (v n : Int) : Int := bAnd v 2147483647 % n
set_option maxHeartbeats 4000000 in
set_option maxRecDepth 100000 in
theorem and31 (v : Int) : 0 ≤ bAnd v 2147483647 ∧ bAnd v 2147483647 < 2147483648 := by
  unfold bAnd
  generalize Int32.ofInt v = z
  have hm : (z &&& Int32.ofInt 2147483647).toBitVec.msb = false := by
    show (z.toBitVec &&& (Int32.ofInt 2147483647).toBitVec).msb = false
    rw [BitVec.msb_and]
    have e : (Int32.ofInt 2147483647).toBitVec.msb = false := by decide +kernel
    rw [e, Bool.and_false]
  show 0 ≤ (z &&& Int32.ofInt 2147483647).toBitVec.toInt ∧ (z &&& Int32.ofInt 2147483647).toBitVec.toInt < 2147483648
  have e := BitVec.msb_eq_toInt (x := (z &&& Int32.ofInt 2147483647).toBitVec)
  rw [hm] at e
  have h0 : ¬ (z &&& Int32.ofInt 2147483647).toBitVec.toInt < 0 := of_decide_eq_false e.symm
  have h1 := BitVec.toInt_lt (x := (z &&& Int32.ofInt 2147483647).toBitVec)
  omega
set_option maxHeartbeats 4000000 in
set_option maxRecDepth 100000 in
theorem lwV_b (v : Int) {n : Int} (hn : 0 < n) : 0 ≤ lwV v n ∧ lwV v n < n := by
  unfold lwV
  exact ⟨Int.emod_nonneg _ (by omega), Int.emod_lt_of_pos _ hn⟩
set_option maxHeartbeats 4000000 in
set_option maxRecDepth 100000 in
theorem c_low {S : Hp} {v n : Int} (hn : 0 < n ∧ n < 2147483648) (Q : Option MV → Hp → Prop) : Wc 97 [.inl v, .inl n] S Q = Q (some (.inl (lwV v n))) S := by
  refine Wc_eq ?_ Q
  unfold Wc lwV
  have h := and31 v
  refine vg_sound (fun _ _ => false) (fun m => m == 97) 20 _ _ _ _ _ _ ?_
  repeat' first | (with_reducible refine vT ?_ ?_; · omega) | (with_reducible refine vF ?_ ?_; · omega) | (with_reducible refine vI (fun _ => ?_) (fun _ => ?_)) | (simp (config := {maxSteps := 1000000}) (disch := (first | assumption | omega | (rw [hr_at]; assumption) | (rw [hr_at]; omega))) only [f_L_low, wg_0, wg_s, wK_none, wK_N, wK_C, wK_R, wQ_some, wQ_none, stR, mZ, mC, stI, ini, mL, gI, gA, sI, sA, bi, gF, pF, kF, kT, kL, c2, mT, mR, f4, tsw, lsw, tgt, inR, Nat.reduceLT, Nat.reduceLeDiff, Nat.reduceEqDiff, Nat.reduceAdd, Nat.reduceSub, ↓reduceIte, Bool.false_eq_true, List.map_cons, List.map_nil, List.length_cons, List.length_nil, List.replicate, List.cons_append, List.nil_append, List.getElem?_cons_zero, List.getElem?_cons_succ, List.set, List.take_succ_cons, List.take_zero, List.drop_succ_cons, List.drop_zero, List.reverse_cons, List.reverse_nil, Int.reduceLE, Int.reduceLT, Int.reduceNeg, Int.reduceToNat, true_and, and_true, and_self, beq_iff_eq, Bool.and_eq_true, Bool.or_eq_true, or_false, false_or, or_true, true_or, and_false, false_and, hu_hr, hr_hr, hr_at, hr_nc, not_false_eq_true, Int.reduceEq, Int.pow_zero, Int.reducePow, Int.reduceMul, Int.reduceAdd, Int.reduceDiv, Int.reduceMod, Int.zero_add, Int.add_zero, Int.mul_one, Int.cast_ofNat_Int])
def clV (S : Hp) (k : Int) : Int := if k < S 0 41 0 then S 0 40 k else 2751597 * k + 2029
set_option maxHeartbeats 4000000 in
set_option maxRecDepth 100000 in
theorem c_cell {S : Hp} {k : Int} (hL : 0 ≤ S 0 41 0 ∧ S 0 41 0 ≤ 260) (hk : 0 ≤ k ∧ k < 1000) (Q : Option MV → Hp → Prop) : Wc 96 [.inr (0, 40), .inl k] S Q = Q (some (.inl (clV S k))) S := by
  refine Wc_eq ?_ Q
  unfold Wc clV
  by_cases c : k < S 0 41 0
  · rw [if_pos c]
    refine vg_sound (fun _ _ => false) (fun m => m == 96) 20 _ _ _ _ _ _ ?_
    repeat' first | (with_reducible refine vT ?_ ?_; · omega) | (with_reducible refine vF ?_ ?_; · omega) | (with_reducible refine vI (fun _ => ?_) (fun _ => ?_)) | (simp (config := {maxSteps := 1000000}) (disch := (first | assumption | omega | (rw [hr_at]; assumption) | (rw [hr_at]; omega))) only [f_L_cell, wg_0, wg_s, wK_none, wK_N, wK_C, wK_R, wQ_some, wQ_none, stR, mZ, mC, stI, ini, mL, gI, gA, sI, sA, bi, gF, pF, kF, kT, kL, c2, mT, mR, f4, tsw, lsw, tgt, inR, Nat.reduceLT, Nat.reduceLeDiff, Nat.reduceEqDiff, Nat.reduceAdd, Nat.reduceSub, ↓reduceIte, Bool.false_eq_true, List.map_cons, List.map_nil, List.length_cons, List.length_nil, List.replicate, List.cons_append, List.nil_append, List.getElem?_cons_zero, List.getElem?_cons_succ, List.set, List.take_succ_cons, List.take_zero, List.drop_succ_cons, List.drop_zero, List.reverse_cons, List.reverse_nil, Int.reduceLE, Int.reduceLT, Int.reduceNeg, Int.reduceToNat, true_and, and_true, and_self, beq_iff_eq, Bool.and_eq_true, Bool.or_eq_true, or_false, false_or, or_true, true_or, and_false, false_and, hu_hr, hr_hr, hr_at, hr_nc, not_false_eq_true, Int.reduceEq, Int.pow_zero, Int.reducePow, Int.reduceMul, Int.reduceAdd, Int.reduceDiv, Int.reduceMod, Int.zero_add, Int.add_zero, Int.mul_one, Int.cast_ofNat_Int])
  · rw [if_neg c]
    refine vg_sound (fun _ _ => false) (fun m => m == 96) 20 _ _ _ _ _ _ ?_
    repeat' first | (with_reducible refine vT ?_ ?_; · omega) | (with_reducible refine vF ?_ ?_; · omega) | (with_reducible refine vI (fun _ => ?_) (fun _ => ?_)) | (simp (config := {maxSteps := 1000000}) (disch := (first | assumption | omega | (rw [hr_at]; assumption) | (rw [hr_at]; omega))) only [f_L_cell, wg_0, wg_s, wK_none, wK_N, wK_C, wK_R, wQ_some, wQ_none, stR, mZ, mC, stI, ini, mL, gI, gA, sI, sA, bi, gF, pF, kF, kT, kL, c2, mT, mR, f4, tsw, lsw, tgt, inR, Nat.reduceLT, Nat.reduceLeDiff, Nat.reduceEqDiff, Nat.reduceAdd, Nat.reduceSub, ↓reduceIte, Bool.false_eq_true, List.map_cons, List.map_nil, List.length_cons, List.length_nil, List.replicate, List.cons_append, List.nil_append, List.getElem?_cons_zero, List.getElem?_cons_succ, List.set, List.take_succ_cons, List.take_zero, List.drop_succ_cons, List.drop_zero, List.reverse_cons, List.reverse_nil, Int.reduceLE, Int.reduceLT, Int.reduceNeg, Int.reduceToNat, true_and, and_true, and_self, beq_iff_eq, Bool.and_eq_true, Bool.or_eq_true, or_false, false_or, or_true, true_or, and_false, false_and, hu_hr, hr_hr, hr_at, hr_nc, not_false_eq_true, Int.reduceEq, Int.pow_zero, Int.reducePow, Int.reduceMul, Int.reduceAdd, Int.reduceDiv, Int.reduceMod, Int.zero_add, Int.add_zero, Int.mul_one, Int.cast_ofNat_Int])
set_option maxHeartbeats 4000000 in
set_option maxRecDepth 100000 in
theorem sa_step {S : Hp} {i j : Nat} {z : Int} {Q : Option MV → Hp → Prop} (hz : 0 ≤ z ∧ z < 59) (e : S i 30 z = S j 30 z) (h : Wp 99 2 [some (.inr (i, 30)), some (.inr (j, 30)), some (.inl (z + 1))] [] S Q) : Wp 99 2 [some (.inr (i, 30)), some (.inr (j, 30)), some (.inl z)] [] S Q := by
  refine vg_cut (fun m pc => (m == 99 && pc == 2)) (fun m => m == 99) 40 _ _ _ _ _ _ ?_
  repeat' first | (with_reducible refine vT ?_ ?_; · omega) | (with_reducible refine vF ?_ ?_; · omega) | (with_reducible refine vI (fun _ => ?_) (fun _ => ?_)) | (simp (config := {maxSteps := 1000000}) (disch := (first | assumption | omega | (rw [hr_at]; assumption) | (rw [hr_at]; omega))) only [f_L_same, wg_0, wg_s, wK_none, wK_N, wK_C, wK_R, wQ_some, wQ_none, stR, mZ, mC, stI, ini, mL, gI, gA, sI, sA, bi, gF, pF, kF, kT, kL, c2, mT, mR, f4, tsw, lsw, tgt, inR, Nat.reduceLT, Nat.reduceLeDiff, Nat.reduceEqDiff, Nat.reduceAdd, Nat.reduceSub, ↓reduceIte, Bool.false_eq_true, List.map_cons, List.map_nil, List.length_cons, List.length_nil, List.replicate, List.cons_append, List.nil_append, List.getElem?_cons_zero, List.getElem?_cons_succ, List.set, List.take_succ_cons, List.take_zero, List.drop_succ_cons, List.drop_zero, List.reverse_cons, List.reverse_nil, Int.reduceLE, Int.reduceLT, Int.reduceNeg, Int.reduceToNat, true_and, and_true, and_self, beq_iff_eq, Bool.and_eq_true, Bool.or_eq_true, or_false, false_or, or_true, true_or, and_false, false_and, hu_hr, hr_hr, hr_at, hr_nc, not_false_eq_true, Int.reduceEq, Int.pow_zero, Int.reducePow, Int.reduceMul, Int.reduceAdd, Int.reduceDiv, Int.reduceMod, Int.zero_add, Int.add_zero, Int.mul_one, Int.cast_ofNat_Int, e])
  all_goals exact h
set_option maxHeartbeats 4000000 in
set_option maxRecDepth 100000 in
theorem sa_end {S : Hp} {i j : Nat} {Q : Option MV → Hp → Prop} (h : Q (some (.inl 1)) S) : Wp 99 2 [some (.inr (i, 30)), some (.inr (j, 30)), some (.inl 59)] [] S Q := by
  refine vg_cut (fun m pc => (m == 99 && pc == 2)) (fun m => m == 99) 40 _ _ _ _ _ _ ?_
  repeat' first | (with_reducible refine vT ?_ ?_; · omega) | (with_reducible refine vF ?_ ?_; · omega) | (with_reducible refine vI (fun _ => ?_) (fun _ => ?_)) | (simp (config := {maxSteps := 1000000}) (disch := (first | assumption | omega | (rw [hr_at]; assumption) | (rw [hr_at]; omega))) only [f_L_same, wg_0, wg_s, wK_none, wK_N, wK_C, wK_R, wQ_some, wQ_none, stR, mZ, mC, stI, ini, mL, gI, gA, sI, sA, bi, gF, pF, kF, kT, kL, c2, mT, mR, f4, tsw, lsw, tgt, inR, Nat.reduceLT, Nat.reduceLeDiff, Nat.reduceEqDiff, Nat.reduceAdd, Nat.reduceSub, ↓reduceIte, Bool.false_eq_true, List.map_cons, List.map_nil, List.length_cons, List.length_nil, List.replicate, List.cons_append, List.nil_append, List.getElem?_cons_zero, List.getElem?_cons_succ, List.set, List.take_succ_cons, List.take_zero, List.drop_succ_cons, List.drop_zero, List.reverse_cons, List.reverse_nil, Int.reduceLE, Int.reduceLT, Int.reduceNeg, Int.reduceToNat, true_and, and_true, and_self, beq_iff_eq, Bool.and_eq_true, Bool.or_eq_true, or_false, false_or, or_true, true_or, and_false, false_and, hu_hr, hr_hr, hr_at, hr_nc, not_false_eq_true, Int.reduceEq, Int.pow_zero, Int.reducePow, Int.reduceMul, Int.reduceAdd, Int.reduceDiv, Int.reduceMod, Int.zero_add, Int.add_zero, Int.mul_one, Int.cast_ofNat_Int])
  exact h
set_option maxHeartbeats 4000000 in
set_option maxRecDepth 100000 in
theorem c_same {S : Hp} {i j : Nat} (e : ∀ k : Int, 0 ≤ k → k < 59 → S i 30 k = S j 30 k) (Q : Option MV → Hp → Prop) : Wc 99 [.inr (i, 30), .inr (j, 30)] S Q = Q (some (.inl 1)) S := by
  refine Wc_eq ?_ Q
  unfold Wc
  refine vg_sound (fun m pc => (m == 99 && pc == 2)) (fun m => m == 99) 10 _ _ _ _ _ _ ?_
  repeat' first | (with_reducible refine vT ?_ ?_; · omega) | (with_reducible refine vF ?_ ?_; · omega) | (with_reducible refine vI (fun _ => ?_) (fun _ => ?_)) | (simp (config := {maxSteps := 1000000}) only [f_L_same, wg_0, wg_s, wK_none, wK_N, wK_C, wK_R, wQ_some, wQ_none, stR, mZ, mC, stI, ini, mL, gI, gA, sI, sA, bi, gF, pF, kF, kT, kL, c2, mT, mR, f4, tsw, lsw, tgt, inR, Nat.reduceLT, Nat.reduceLeDiff, Nat.reduceEqDiff, Nat.reduceAdd, Nat.reduceSub, ↓reduceIte, Bool.false_eq_true, List.map_cons, List.map_nil, List.length_cons, List.length_nil, List.replicate, List.cons_append, List.nil_append, List.getElem?_cons_zero, List.getElem?_cons_succ, List.set, List.take_succ_cons, List.take_zero, List.drop_succ_cons, List.drop_zero, List.reverse_cons, List.reverse_nil, Int.reduceLE, Int.reduceLT, Int.reduceNeg, Int.reduceToNat, true_and, and_true, and_self, beq_iff_eq, Bool.and_eq_true, Bool.or_eq_true, or_false, false_or, or_true, true_or, and_false, false_and, hu_hr, hr_hr, hr_at, hr_nc, not_false_eq_true, Int.reduceEq, Int.pow_zero, Int.reducePow, Int.reduceMul, Int.reduceAdd, Int.reduceDiv, Int.reduceMod, Int.zero_add, Int.add_zero, Int.mul_one, Int.cast_ofNat_Int])
  obtain ⟨N, hN⟩ : ∃ N : Nat, N = 59 := ⟨_, rfl⟩
  refine wp_for (fun k => [some (.inr (i, 30)), some (.inr (j, 30)), some (.inl (k : Int))]) (fun _ => S) N rfl rfl (fun k hk h => ?_) ?_
  · refine sa_step (by omega) (e k (by omega) (by omega)) ?_
    rw [Int.natCast_add] at h
    exact h
  · have e1 : (N : Int) = 59 := by omega
    rw [e1]
    exact sa_end ⟨rfl, rfl⟩
