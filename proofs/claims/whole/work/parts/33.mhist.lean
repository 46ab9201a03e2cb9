/-! THE REFERENCE: states copied, recorded, taken back -/
def cpF (f g : Int → Int) (n : Int) : Int → Int := fun j => if 0 ≤ j ∧ j < n then g j else f j
set_option maxHeartbeats 4000000 in
set_option maxRecDepth 100000 in
theorem cpF_in {f g : Int → Int} {n j : Int} (h : 0 ≤ j ∧ j < n) : cpF f g n j = g j := if_pos h
set_option maxHeartbeats 4000000 in
set_option maxRecDepth 100000 in
theorem cpF_out {f g : Int → Int} {n j : Int} (h : ¬ (0 ≤ j ∧ j < n)) : cpF f g n j = f j := if_neg h
set_option maxHeartbeats 4000000 in
set_option maxRecDepth 100000 in
theorem cpF_0 (f g : Int → Int) : cpF f g 0 = f := by
  funext j
  exact if_neg (by omega)
set_option maxHeartbeats 4000000 in
set_option maxRecDepth 100000 in
theorem cpF_s (f g : Int → Int) {n : Int} (hn : 0 ≤ n) : up (cpF f g n) n (g n) = cpF f g (n + 1) := by
  funext j
  by_cases h : j = n
  · rw [up_eq h, cpF_in (by omega), h]
  · rw [up_ne h]
    unfold cpF
    by_cases h2 : 0 ≤ j ∧ j < n
    · rw [if_pos h2, if_pos (by omega)]
    · rw [if_neg h2, if_neg (by omega)]
set_option maxHeartbeats 4000000 in
set_option maxRecDepth 100000 in
theorem up_up (f : Int → Int) (i a b : Int) : up (up f i a) i b = up f i b := by
  funext j
  unfold up
  split <;> rfl
set_option maxHeartbeats 4000000 in
set_option maxRecDepth 100000 in
theorem hr_comm (S : Hp) {k c k' c' : Nat} (f g : Int → Int) (h : ¬ c = c') : hr (hr S k c f) k' c' g = hr (hr S k' c' g) k c f := by
  funext a b
  unfold hr
  by_cases h1 : a = k' ∧ b = c'
  · rw [if_pos h1, if_neg (by omega), if_pos h1]
  · rw [if_neg h1]
    by_cases h2 : a = k ∧ b = c
    · rw [if_pos h2, if_pos h2]
    · rw [if_neg h2, if_neg h2, if_neg h1]
set_option maxHeartbeats 4000000 in
set_option maxRecDepth 100000 in
theorem lay_step {S : Hp} {z : Int} {Q : Option MV → Hp → Prop} (hz : 0 ≤ z ∧ z < 3833) (h : Wp 111 2 [some (.inr (0, 30)), some (.inl (z + 1))] [] (hr S 0 33 (up (S 0 33) z (S 0 31 z))) Q) : Wp 111 2 [some (.inr (0, 30)), some (.inl z)] [] S Q := by
  refine vg_cut (fun m pc => (m == 111 && pc == 2)) (fun m => m == 111) 40 _ _ _ _ _ _ ?_
  repeat' first | (with_reducible refine vT ?_ ?_; · omega) | (with_reducible refine vF ?_ ?_; · omega) | (with_reducible refine vI (fun _ => ?_) (fun _ => ?_)) | (simp (config := {maxSteps := 1000000}) (disch := (first | assumption | omega | (rw [hr_at]; assumption) | (rw [hr_at]; omega))) only [f_X8_lay, wg_0, wg_s, wK_none, wK_N, wK_C, wK_R, wQ_some, wQ_none, stR, mZ, mC, stI, ini, mL, gI, gA, sI, sA, bi, gF, pF, kF, kT, kL, c2, mT, mR, f4, tsw, lsw, tgt, inR, Nat.reduceLT, Nat.reduceLeDiff, Nat.reduceEqDiff, Nat.reduceAdd, Nat.reduceSub, ↓reduceIte, Bool.false_eq_true, List.map_cons, List.map_nil, List.length_cons, List.length_nil, List.replicate, List.cons_append, List.nil_append, List.getElem?_cons_zero, List.getElem?_cons_succ, List.set, List.take_succ_cons, List.take_zero, List.drop_succ_cons, List.drop_zero, List.reverse_cons, List.reverse_nil, Int.reduceLE, Int.reduceLT, Int.reduceNeg, Int.reduceToNat, true_and, and_true, and_self, beq_iff_eq, Bool.and_eq_true, Bool.or_eq_true, or_false, false_or, or_true, true_or, and_false, false_and, hu_hr, hr_hr, hr_at, hr_nc, not_false_eq_true, Int.reduceEq, Int.pow_zero, Int.reducePow, Int.reduceMul, Int.reduceAdd, Int.reduceDiv, Int.reduceMod, Int.zero_add, Int.add_zero, Int.mul_one, Int.cast_ofNat_Int])
  exact h
set_option maxHeartbeats 4000000 in
set_option maxRecDepth 100000 in
theorem lay_end {S : Hp} {Q : Option MV → Hp → Prop} (h : Q none S) : Wp 111 2 [some (.inr (0, 30)), some (.inl 3833)] [] S Q := by
  refine vg_cut (fun m pc => (m == 111 && pc == 2)) (fun m => m == 111) 40 _ _ _ _ _ _ ?_
  repeat' first | (with_reducible refine vT ?_ ?_; · omega) | (with_reducible refine vF ?_ ?_; · omega) | (with_reducible refine vI (fun _ => ?_) (fun _ => ?_)) | (simp (config := {maxSteps := 1000000}) (disch := (first | assumption | omega | (rw [hr_at]; assumption) | (rw [hr_at]; omega))) only [f_X8_lay, wg_0, wg_s, wK_none, wK_N, wK_C, wK_R, wQ_some, wQ_none, stR, mZ, mC, stI, ini, mL, gI, gA, sI, sA, bi, gF, pF, kF, kT, kL, c2, mT, mR, f4, tsw, lsw, tgt, inR, Nat.reduceLT, Nat.reduceLeDiff, Nat.reduceEqDiff, Nat.reduceAdd, Nat.reduceSub, ↓reduceIte, Bool.false_eq_true, List.map_cons, List.map_nil, List.length_cons, List.length_nil, List.replicate, List.cons_append, List.nil_append, List.getElem?_cons_zero, List.getElem?_cons_succ, List.set, List.take_succ_cons, List.take_zero, List.drop_succ_cons, List.drop_zero, List.reverse_cons, List.reverse_nil, Int.reduceLE, Int.reduceLT, Int.reduceNeg, Int.reduceToNat, true_and, and_true, and_self, beq_iff_eq, Bool.and_eq_true, Bool.or_eq_true, or_false, false_or, or_true, true_or, and_false, false_and, hu_hr, hr_hr, hr_at, hr_nc, not_false_eq_true, Int.reduceEq, Int.pow_zero, Int.reducePow, Int.reduceMul, Int.reduceAdd, Int.reduceDiv, Int.reduceMod, Int.zero_add, Int.add_zero, Int.mul_one, Int.cast_ofNat_Int])
  exact h
set_option maxHeartbeats 4000000 in
set_option maxRecDepth 100000 in
theorem m_lay {S : Hp} (Q : Option MV → Hp → Prop) : Wc 111 [.inr (0, 30)] S Q = Q none (hr S 0 33 (cpF (S 0 33) (S 0 31) 3833)) := by
  refine Wc_eq ?_ Q
  unfold Wc
  refine vg_sound (fun m pc => (m == 111 && pc == 2)) (fun m => m == 111) 10 _ _ _ _ _ _ ?_
  repeat' first | (with_reducible refine vT ?_ ?_; · omega) | (with_reducible refine vF ?_ ?_; · omega) | (with_reducible refine vI (fun _ => ?_) (fun _ => ?_)) | (simp (config := {maxSteps := 1000000}) only [f_X8_lay, wg_0, wg_s, wK_none, wK_N, wK_C, wK_R, wQ_some, wQ_none, stR, mZ, mC, stI, ini, mL, gI, gA, sI, sA, bi, gF, pF, kF, kT, kL, c2, mT, mR, f4, tsw, lsw, tgt, inR, Nat.reduceLT, Nat.reduceLeDiff, Nat.reduceEqDiff, Nat.reduceAdd, Nat.reduceSub, ↓reduceIte, Bool.false_eq_true, List.map_cons, List.map_nil, List.length_cons, List.length_nil, List.replicate, List.cons_append, List.nil_append, List.getElem?_cons_zero, List.getElem?_cons_succ, List.set, List.take_succ_cons, List.take_zero, List.drop_succ_cons, List.drop_zero, List.reverse_cons, List.reverse_nil, Int.reduceLE, Int.reduceLT, Int.reduceNeg, Int.reduceToNat, true_and, and_true, and_self, beq_iff_eq, Bool.and_eq_true, Bool.or_eq_true, or_false, false_or, or_true, true_or, and_false, false_and, hu_hr, hr_hr, hr_at, hr_nc, not_false_eq_true, Int.reduceEq, Int.pow_zero, Int.reducePow, Int.reduceMul, Int.reduceAdd, Int.reduceDiv, Int.reduceMod, Int.zero_add, Int.add_zero, Int.mul_one, Int.cast_ofNat_Int])
  obtain ⟨N, hN⟩ : ∃ N : Nat, N = 3833 := ⟨_, rfl⟩
  have e : (3833 : Int) = (N : Int) := by omega
  rw [e]
  refine wp_for (fun j => [some (.inr (0, 30)), some (.inl (j : Int))]) (fun j => hr S 0 33 (cpF (S 0 33) (S 0 31) j)) N rfl (by rw [Int.ofNat_zero, cpF_0, hr_id]) (fun j hj h => ?_) ?_
  · refine lay_step (by omega) ?_
    rw [hr_hr, hr_at, hr_nc (by decide), cpF_s _ _ (by omega)]
    rw [Int.natCast_add] at h
    exact h
  · rw [← e]
    exact lay_end ⟨rfl, rfl⟩
set_option maxHeartbeats 4000000 in
set_option maxRecDepth 100000 in
theorem tb_step {S : Hp} {z : Int} {Q : Option MV → Hp → Prop} (hz : 0 ≤ z ∧ z < 3833) (h : Wp 112 2 [some (.inr (0, 30)), some (.inl (z + 1))] [] (hr S 0 31 (up (S 0 31) z (S 0 33 z))) Q) : Wp 112 2 [some (.inr (0, 30)), some (.inl z)] [] S Q := by
  refine vg_cut (fun m pc => (m == 112 && pc == 2)) (fun m => m == 112) 40 _ _ _ _ _ _ ?_
  repeat' first | (with_reducible refine vT ?_ ?_; · omega) | (with_reducible refine vF ?_ ?_; · omega) | (with_reducible refine vI (fun _ => ?_) (fun _ => ?_)) | (simp (config := {maxSteps := 1000000}) (disch := (first | assumption | omega | (rw [hr_at]; assumption) | (rw [hr_at]; omega))) only [f_X8_takeBack, wg_0, wg_s, wK_none, wK_N, wK_C, wK_R, wQ_some, wQ_none, stR, mZ, mC, stI, ini, mL, gI, gA, sI, sA, bi, gF, pF, kF, kT, kL, c2, mT, mR, f4, tsw, lsw, tgt, inR, Nat.reduceLT, Nat.reduceLeDiff, Nat.reduceEqDiff, Nat.reduceAdd, Nat.reduceSub, ↓reduceIte, Bool.false_eq_true, List.map_cons, List.map_nil, List.length_cons, List.length_nil, List.replicate, List.cons_append, List.nil_append, List.getElem?_cons_zero, List.getElem?_cons_succ, List.set, List.take_succ_cons, List.take_zero, List.drop_succ_cons, List.drop_zero, List.reverse_cons, List.reverse_nil, Int.reduceLE, Int.reduceLT, Int.reduceNeg, Int.reduceToNat, true_and, and_true, and_self, beq_iff_eq, Bool.and_eq_true, Bool.or_eq_true, or_false, false_or, or_true, true_or, and_false, false_and, hu_hr, hr_hr, hr_at, hr_nc, not_false_eq_true, Int.reduceEq, Int.pow_zero, Int.reducePow, Int.reduceMul, Int.reduceAdd, Int.reduceDiv, Int.reduceMod, Int.zero_add, Int.add_zero, Int.mul_one, Int.cast_ofNat_Int])
  exact h
set_option maxHeartbeats 4000000 in
set_option maxRecDepth 100000 in
theorem tb_end {S : Hp} {Q : Option MV → Hp → Prop} (h : Q none S) : Wp 112 2 [some (.inr (0, 30)), some (.inl 3833)] [] S Q := by
  refine vg_cut (fun m pc => (m == 112 && pc == 2)) (fun m => m == 112) 40 _ _ _ _ _ _ ?_
  repeat' first | (with_reducible refine vT ?_ ?_; · omega) | (with_reducible refine vF ?_ ?_; · omega) | (with_reducible refine vI (fun _ => ?_) (fun _ => ?_)) | (simp (config := {maxSteps := 1000000}) (disch := (first | assumption | omega | (rw [hr_at]; assumption) | (rw [hr_at]; omega))) only [f_X8_takeBack, wg_0, wg_s, wK_none, wK_N, wK_C, wK_R, wQ_some, wQ_none, stR, mZ, mC, stI, ini, mL, gI, gA, sI, sA, bi, gF, pF, kF, kT, kL, c2, mT, mR, f4, tsw, lsw, tgt, inR, Nat.reduceLT, Nat.reduceLeDiff, Nat.reduceEqDiff, Nat.reduceAdd, Nat.reduceSub, ↓reduceIte, Bool.false_eq_true, List.map_cons, List.map_nil, List.length_cons, List.length_nil, List.replicate, List.cons_append, List.nil_append, List.getElem?_cons_zero, List.getElem?_cons_succ, List.set, List.take_succ_cons, List.take_zero, List.drop_succ_cons, List.drop_zero, List.reverse_cons, List.reverse_nil, Int.reduceLE, Int.reduceLT, Int.reduceNeg, Int.reduceToNat, true_and, and_true, and_self, beq_iff_eq, Bool.and_eq_true, Bool.or_eq_true, or_false, false_or, or_true, true_or, and_false, false_and, hu_hr, hr_hr, hr_at, hr_nc, not_false_eq_true, Int.reduceEq, Int.pow_zero, Int.reducePow, Int.reduceMul, Int.reduceAdd, Int.reduceDiv, Int.reduceMod, Int.zero_add, Int.add_zero, Int.mul_one, Int.cast_ofNat_Int])
  exact h
set_option maxHeartbeats 4000000 in
set_option maxRecDepth 100000 in
theorem m_takeBack {S : Hp} (Q : Option MV → Hp → Prop) : Wc 112 [.inr (0, 30)] S Q = Q none (hr S 0 31 (cpF (S 0 31) (S 0 33) 3833)) := by
  refine Wc_eq ?_ Q
  unfold Wc
  refine vg_sound (fun m pc => (m == 112 && pc == 2)) (fun m => m == 112) 10 _ _ _ _ _ _ ?_
  repeat' first | (with_reducible refine vT ?_ ?_; · omega) | (with_reducible refine vF ?_ ?_; · omega) | (with_reducible refine vI (fun _ => ?_) (fun _ => ?_)) | (simp (config := {maxSteps := 1000000}) only [f_X8_takeBack, wg_0, wg_s, wK_none, wK_N, wK_C, wK_R, wQ_some, wQ_none, stR, mZ, mC, stI, ini, mL, gI, gA, sI, sA, bi, gF, pF, kF, kT, kL, c2, mT, mR, f4, tsw, lsw, tgt, inR, Nat.reduceLT, Nat.reduceLeDiff, Nat.reduceEqDiff, Nat.reduceAdd, Nat.reduceSub, ↓reduceIte, Bool.false_eq_true, List.map_cons, List.map_nil, List.length_cons, List.length_nil, List.replicate, List.cons_append, List.nil_append, List.getElem?_cons_zero, List.getElem?_cons_succ, List.set, List.take_succ_cons, List.take_zero, List.drop_succ_cons, List.drop_zero, List.reverse_cons, List.reverse_nil, Int.reduceLE, Int.reduceLT, Int.reduceNeg, Int.reduceToNat, true_and, and_true, and_self, beq_iff_eq, Bool.and_eq_true, Bool.or_eq_true, or_false, false_or, or_true, true_or, and_false, false_and, hu_hr, hr_hr, hr_at, hr_nc, not_false_eq_true, Int.reduceEq, Int.pow_zero, Int.reducePow, Int.reduceMul, Int.reduceAdd, Int.reduceDiv, Int.reduceMod, Int.zero_add, Int.add_zero, Int.mul_one, Int.cast_ofNat_Int])
  obtain ⟨N, hN⟩ : ∃ N : Nat, N = 3833 := ⟨_, rfl⟩
  have e : (3833 : Int) = (N : Int) := by omega
  rw [e]
  refine wp_for (fun j => [some (.inr (0, 30)), some (.inl (j : Int))]) (fun j => hr S 0 31 (cpF (S 0 31) (S 0 33) j)) N rfl (by rw [Int.ofNat_zero, cpF_0, hr_id]) (fun j hj h => ?_) ?_
  · refine tb_step (by omega) ?_
    rw [hr_hr, hr_at, hr_nc (by decide), cpF_s _ _ (by omega)]
    rw [Int.natCast_add] at h
    exact h
  · rw [← e]
    exact tb_end ⟨rfl, rfl⟩
/- the history: shifted if it is full, and a row put behind -/
def shF (h : Int → Int) (n : Int) : Int → Int := fun j => if 0 ≤ j ∧ j < n then h (j + 3833) else h j
set_option maxHeartbeats 4000000 in
set_option maxRecDepth 100000 in
theorem shF_0 (h : Int → Int) : shF h 0 = h := by
  funext j
  exact if_neg (by omega)
set_option maxHeartbeats 4000000 in
set_option maxRecDepth 100000 in
theorem shF_s (h : Int → Int) {n : Int} (hn : 0 ≤ n) : up (shF h n) n (shF h n (n + 3833)) = shF h (n + 1) := by
  funext j
  have e : shF h n (n + 3833) = h (n + 3833) := if_neg (by omega)
  rw [e]
  by_cases h1 : j = n
  · rw [up_eq h1]
    unfold shF
    rw [if_pos (by omega), h1]
  · rw [up_ne h1]
    unfold shF
    by_cases h2 : 0 ≤ j ∧ j < n
    · rw [if_pos h2, if_pos (by omega)]
    · rw [if_neg h2, if_neg (by omega)]
def ptF (h g : Int → Int) (b n : Int) : Int → Int := fun j => if b ≤ j ∧ j < b + n then g (j - b) else h j
set_option maxHeartbeats 4000000 in
set_option maxRecDepth 100000 in
theorem ptF_0 (h g : Int → Int) (b : Int) : ptF h g b 0 = h := by
  funext j
  exact if_neg (by omega)
set_option maxHeartbeats 4000000 in
set_option maxRecDepth 100000 in
theorem ptF_s (h g : Int → Int) {b n : Int} (hn : 0 ≤ n) : up (ptF h g b n) (b + n) (g n) = ptF h g b (n + 1) := by
  funext j
  by_cases h1 : j = b + n
  · rw [up_eq h1]
    unfold ptF
    rw [if_pos (by omega), h1]
    congr 1
    omega
  · rw [up_ne h1]
    unfold ptF
    by_cases h2 : b ≤ j ∧ j < b + n
    · rw [if_pos h2, if_pos (by omega)]
    · rw [if_neg h2, if_neg (by omega)]
set_option maxHeartbeats 4000000 in
set_option maxRecDepth 100000 in
theorem rc_step1 {S : Hp} {z : Int} {Q : Option MV → Hp → Prop} (hz : 0 ≤ z ∧ z < 11499) (h : Wp 110 10 [some (.inr (0, 30)), some (.inl (z + 1))] [] (hr S 0 34 (up (S 0 34) z (S 0 34 (z + 3833)))) Q) : Wp 110 10 [some (.inr (0, 30)), some (.inl z)] [] S Q := by
  refine vg_cut (fun m pc => (m == 110 && pc == 10)) (fun m => m == 110) 40 _ _ _ _ _ _ ?_
  repeat' first | (with_reducible refine vT ?_ ?_; · omega) | (with_reducible refine vF ?_ ?_; · omega) | (with_reducible refine vI (fun _ => ?_) (fun _ => ?_)) | (simp (config := {maxSteps := 1000000}) (disch := (first | assumption | omega | (rw [hr_at]; assumption) | (rw [hr_at]; omega))) only [f_X8_record, wg_0, wg_s, wK_none, wK_N, wK_C, wK_R, wQ_some, wQ_none, stR, mZ, mC, stI, ini, mL, gI, gA, sI, sA, bi, gF, pF, kF, kT, kL, c2, mT, mR, f4, tsw, lsw, tgt, inR, Nat.reduceLT, Nat.reduceLeDiff, Nat.reduceEqDiff, Nat.reduceAdd, Nat.reduceSub, ↓reduceIte, Bool.false_eq_true, List.map_cons, List.map_nil, List.length_cons, List.length_nil, List.replicate, List.cons_append, List.nil_append, List.getElem?_cons_zero, List.getElem?_cons_succ, List.set, List.take_succ_cons, List.take_zero, List.drop_succ_cons, List.drop_zero, List.reverse_cons, List.reverse_nil, Int.reduceLE, Int.reduceLT, Int.reduceNeg, Int.reduceToNat, true_and, and_true, and_self, beq_iff_eq, Bool.and_eq_true, Bool.or_eq_true, or_false, false_or, or_true, true_or, and_false, false_and, hu_hr, hr_hr, hr_at, hr_nc, not_false_eq_true, Int.reduceEq, Int.pow_zero, Int.reducePow, Int.reduceMul, Int.reduceAdd, Int.reduceDiv, Int.reduceMod, Int.zero_add, Int.add_zero, Int.mul_one, Int.cast_ofNat_Int])
  exact h
set_option maxHeartbeats 4000000 in
set_option maxRecDepth 100000 in
theorem rc_end1 {S : Hp} {Q : Option MV → Hp → Prop} (h : Wp 110 51 [some (.inr (0, 30)), some (.inl 0)] [] (hr S 0 30 (up (S 0 30) 6 (S 0 30 6 - 1))) Q) : Wp 110 10 [some (.inr (0, 30)), some (.inl 11499)] [] S Q := by
  refine vg_cut (fun m pc => (m == 110 && pc == 10) || (m == 110 && pc == 51)) (fun m => m == 110) 40 _ _ _ _ _ _ ?_
  repeat' first | (with_reducible refine vT ?_ ?_; · omega) | (with_reducible refine vF ?_ ?_; · omega) | (with_reducible refine vI (fun _ => ?_) (fun _ => ?_)) | (simp (config := {maxSteps := 1000000}) (disch := (first | assumption | omega | (rw [hr_at]; assumption) | (rw [hr_at]; omega))) only [f_X8_record, wg_0, wg_s, wK_none, wK_N, wK_C, wK_R, wQ_some, wQ_none, stR, mZ, mC, stI, ini, mL, gI, gA, sI, sA, bi, gF, pF, kF, kT, kL, c2, mT, mR, f4, tsw, lsw, tgt, inR, Nat.reduceLT, Nat.reduceLeDiff, Nat.reduceEqDiff, Nat.reduceAdd, Nat.reduceSub, ↓reduceIte, Bool.false_eq_true, List.map_cons, List.map_nil, List.length_cons, List.length_nil, List.replicate, List.cons_append, List.nil_append, List.getElem?_cons_zero, List.getElem?_cons_succ, List.set, List.take_succ_cons, List.take_zero, List.drop_succ_cons, List.drop_zero, List.reverse_cons, List.reverse_nil, Int.reduceLE, Int.reduceLT, Int.reduceNeg, Int.reduceToNat, true_and, and_true, and_self, beq_iff_eq, Bool.and_eq_true, Bool.or_eq_true, or_false, false_or, or_true, true_or, and_false, false_and, hu_hr, hr_hr, hr_at, hr_nc, not_false_eq_true, Int.reduceEq, Int.pow_zero, Int.reducePow, Int.reduceMul, Int.reduceAdd, Int.reduceDiv, Int.reduceMod, Int.zero_add, Int.add_zero, Int.mul_one, Int.cast_ofNat_Int])
  exact h
set_option maxHeartbeats 4000000 in
set_option maxRecDepth 100000 in
theorem rc_step2 {S : Hp} {z : Int} {Q : Option MV → Hp → Prop} (hk : 0 ≤ S 0 30 6 ∧ S 0 30 6 < 4) (hz : 0 ≤ z ∧ z < 3833) (h : Wp 110 51 [some (.inr (0, 30)), some (.inl (z + 1))] [] (hr S 0 34 (up (S 0 34) (3833 * S 0 30 6 + z) (S 0 31 z))) Q) : Wp 110 51 [some (.inr (0, 30)), some (.inl z)] [] S Q := by
  refine vg_cut (fun m pc => (m == 110 && pc == 51)) (fun m => m == 110) 40 _ _ _ _ _ _ ?_
  repeat' first | (with_reducible refine vT ?_ ?_; · omega) | (with_reducible refine vF ?_ ?_; · omega) | (with_reducible refine vI (fun _ => ?_) (fun _ => ?_)) | (simp (config := {maxSteps := 1000000}) (disch := (first | assumption | omega | (rw [hr_at]; assumption) | (rw [hr_at]; omega))) only [f_X8_record, wg_0, wg_s, wK_none, wK_N, wK_C, wK_R, wQ_some, wQ_none, stR, mZ, mC, stI, ini, mL, gI, gA, sI, sA, bi, gF, pF, kF, kT, kL, c2, mT, mR, f4, tsw, lsw, tgt, inR, Nat.reduceLT, Nat.reduceLeDiff, Nat.reduceEqDiff, Nat.reduceAdd, Nat.reduceSub, ↓reduceIte, Bool.false_eq_true, List.map_cons, List.map_nil, List.length_cons, List.length_nil, List.replicate, List.cons_append, List.nil_append, List.getElem?_cons_zero, List.getElem?_cons_succ, List.set, List.take_succ_cons, List.take_zero, List.drop_succ_cons, List.drop_zero, List.reverse_cons, List.reverse_nil, Int.reduceLE, Int.reduceLT, Int.reduceNeg, Int.reduceToNat, true_and, and_true, and_self, beq_iff_eq, Bool.and_eq_true, Bool.or_eq_true, or_false, false_or, or_true, true_or, and_false, false_and, hu_hr, hr_hr, hr_at, hr_nc, not_false_eq_true, Int.reduceEq, Int.pow_zero, Int.reducePow, Int.reduceMul, Int.reduceAdd, Int.reduceDiv, Int.reduceMod, Int.zero_add, Int.add_zero, Int.mul_one, Int.cast_ofNat_Int])
  exact h
set_option maxHeartbeats 4000000 in
set_option maxRecDepth 100000 in
theorem rc_end2 {S : Hp} {Q : Option MV → Hp → Prop} (h : Q none (hr S 0 30 (up (S 0 30) 6 (S 0 30 6 + 1)))) : Wp 110 51 [some (.inr (0, 30)), some (.inl 3833)] [] S Q := by
  refine vg_cut (fun m pc => (m == 110 && pc == 51)) (fun m => m == 110) 40 _ _ _ _ _ _ ?_
  repeat' first | (with_reducible refine vT ?_ ?_; · omega) | (with_reducible refine vF ?_ ?_; · omega) | (with_reducible refine vI (fun _ => ?_) (fun _ => ?_)) | (simp (config := {maxSteps := 1000000}) (disch := (first | assumption | omega | (rw [hr_at]; assumption) | (rw [hr_at]; omega))) only [f_X8_record, wg_0, wg_s, wK_none, wK_N, wK_C, wK_R, wQ_some, wQ_none, stR, mZ, mC, stI, ini, mL, gI, gA, sI, sA, bi, gF, pF, kF, kT, kL, c2, mT, mR, f4, tsw, lsw, tgt, inR, Nat.reduceLT, Nat.reduceLeDiff, Nat.reduceEqDiff, Nat.reduceAdd, Nat.reduceSub, ↓reduceIte, Bool.false_eq_true, List.map_cons, List.map_nil, List.length_cons, List.length_nil, List.replicate, List.cons_append, List.nil_append, List.getElem?_cons_zero, List.getElem?_cons_succ, List.set, List.take_succ_cons, List.take_zero, List.drop_succ_cons, List.drop_zero, List.reverse_cons, List.reverse_nil, Int.reduceLE, Int.reduceLT, Int.reduceNeg, Int.reduceToNat, true_and, and_true, and_self, beq_iff_eq, Bool.and_eq_true, Bool.or_eq_true, or_false, false_or, or_true, true_or, and_false, false_and, hu_hr, hr_hr, hr_at, hr_nc, not_false_eq_true, Int.reduceEq, Int.pow_zero, Int.reducePow, Int.reduceMul, Int.reduceAdd, Int.reduceDiv, Int.reduceMod, Int.zero_add, Int.add_zero, Int.mul_one, Int.cast_ofNat_Int])
  exact h
set_option maxHeartbeats 4000000 in
set_option maxRecDepth 100000 in
theorem rc_put {S : Hp} {Q : Option MV → Hp → Prop} (hk : 0 ≤ S 0 30 6 ∧ S 0 30 6 < 4) (h : Q none (hr (hr S 0 34 (ptF (S 0 34) (S 0 31) (3833 * S 0 30 6) 3833)) 0 30 (up (S 0 30) 6 (S 0 30 6 + 1)))) : Wp 110 51 [some (.inr (0, 30)), some (.inl 0)] [] S Q := by
  obtain ⟨N, hN⟩ : ∃ N : Nat, N = 3833 := ⟨_, rfl⟩
  have e : (3833 : Int) = (N : Int) := by omega
  refine wp_for (fun j => [some (.inr (0, 30)), some (.inl (j : Int))]) (fun j => hr S 0 34 (ptF (S 0 34) (S 0 31) (3833 * S 0 30 6) j)) N rfl (by rw [Int.ofNat_zero, ptF_0, hr_id]) (fun j hj h => ?_) ?_
  · refine rc_step2 (by rw [hr_nc (by decide)]; exact hk) (by omega) ?_
    rw [hr_hr, hr_at, hr_nc (by decide), hr_nc (by decide), ptF_s _ _ (by omega)]
    rw [Int.natCast_add] at h
    exact h
  · rw [← e]
    refine rc_end2 ?_
    rw [hr_nc (by decide)]
    exact h
def rcK (k : Int) : Int := if k = 4 then 3 else k
def rcH (h : Int → Int) (k : Int) (g : Int → Int) : Int → Int := ptF (if k = 4 then shF h 11499 else h) g (3833 * rcK k) 3833
set_option maxHeartbeats 4000000 in
set_option maxRecDepth 100000 in
theorem m_record {S : Hp} (hk : 0 ≤ S 0 30 6 ∧ S 0 30 6 ≤ 4) (Q : Option MV → Hp → Prop) : Wc 110 [.inr (0, 30)] S Q = Q none (hr (hr S 0 34 (rcH (S 0 34) (S 0 30 6) (S 0 31))) 0 30 (up (S 0 30) 6 (rcK (S 0 30 6) + 1))) := by
  refine Wc_eq ?_ Q
  unfold Wc rcH rcK
  by_cases h4 : S 0 30 6 = 4
  · rw [if_pos h4, if_pos h4]
    refine vg_sound (fun m pc => (m == 110 && pc == 10) || (m == 110 && pc == 51)) (fun m => m == 110) 10 _ _ _ _ _ _ ?_
    repeat' first | (with_reducible refine vT ?_ ?_; · omega) | (with_reducible refine vF ?_ ?_; · omega) | (with_reducible refine vI (fun _ => ?_) (fun _ => ?_)) | (simp (config := {maxSteps := 1000000}) (disch := (first | assumption | omega | (rw [hr_at]; assumption) | (rw [hr_at]; omega))) only [f_X8_record, wg_0, wg_s, wK_none, wK_N, wK_C, wK_R, wQ_some, wQ_none, stR, mZ, mC, stI, ini, mL, gI, gA, sI, sA, bi, gF, pF, kF, kT, kL, c2, mT, mR, f4, tsw, lsw, tgt, inR, Nat.reduceLT, Nat.reduceLeDiff, Nat.reduceEqDiff, Nat.reduceAdd, Nat.reduceSub, ↓reduceIte, Bool.false_eq_true, List.map_cons, List.map_nil, List.length_cons, List.length_nil, List.replicate, List.cons_append, List.nil_append, List.getElem?_cons_zero, List.getElem?_cons_succ, List.set, List.take_succ_cons, List.take_zero, List.drop_succ_cons, List.drop_zero, List.reverse_cons, List.reverse_nil, Int.reduceLE, Int.reduceLT, Int.reduceNeg, Int.reduceToNat, true_and, and_true, and_self, beq_iff_eq, Bool.and_eq_true, Bool.or_eq_true, or_false, false_or, or_true, true_or, and_false, false_and, hu_hr, hr_hr, hr_at, hr_nc, not_false_eq_true, Int.reduceEq, Int.pow_zero, Int.reducePow, Int.reduceMul, Int.reduceAdd, Int.reduceDiv, Int.reduceMod, Int.zero_add, Int.add_zero, Int.mul_one, Int.cast_ofNat_Int])
    obtain ⟨N, hN⟩ : ∃ N : Nat, N = 11499 := ⟨_, rfl⟩
    have e : (11499 : Int) = (N : Int) := by omega
    refine wp_for (fun j => [some (.inr (0, 30)), some (.inl (j : Int))]) (fun j => hr S 0 34 (shF (S 0 34) j)) N rfl (by rw [Int.ofNat_zero, shF_0, hr_id]) (fun j hj h => ?_) ?_
    · refine rc_step1 (by omega) ?_
      rw [hr_hr, hr_at, shF_s _ (by omega)]
      rw [Int.natCast_add] at h
      exact h
    · rw [← e]
      refine rc_end1 ?_
      rw [hr_nc (by decide), h4]
      refine rc_put (by rw [hr_at, up_eq rfl]; omega) ?_
      simp (disch := decide) only [hr_at, hr_nc, up_eq, up_up, Int.reduceSub, Int.reduceMul, Int.reduceAdd]
      refine ⟨trivial, ?_⟩
      funext a b
      unfold hr
      by_cases h30 : a = 0 ∧ b = 30 <;> by_cases h34 : a = 0 ∧ b = 34 <;> simp [h30, h34]
  · rw [if_neg h4, if_neg h4]
    refine vg_sound (fun m pc => (m == 110 && pc == 10) || (m == 110 && pc == 51)) (fun m => m == 110) 10 _ _ _ _ _ _ ?_
    repeat' first | (with_reducible refine vT ?_ ?_; · omega) | (with_reducible refine vF ?_ ?_; · omega) | (with_reducible refine vI (fun _ => ?_) (fun _ => ?_)) | (simp (config := {maxSteps := 1000000}) (disch := (first | assumption | omega | (rw [hr_at]; assumption) | (rw [hr_at]; omega))) only [f_X8_record, wg_0, wg_s, wK_none, wK_N, wK_C, wK_R, wQ_some, wQ_none, stR, mZ, mC, stI, ini, mL, gI, gA, sI, sA, bi, gF, pF, kF, kT, kL, c2, mT, mR, f4, tsw, lsw, tgt, inR, Nat.reduceLT, Nat.reduceLeDiff, Nat.reduceEqDiff, Nat.reduceAdd, Nat.reduceSub, ↓reduceIte, Bool.false_eq_true, List.map_cons, List.map_nil, List.length_cons, List.length_nil, List.replicate, List.cons_append, List.nil_append, List.getElem?_cons_zero, List.getElem?_cons_succ, List.set, List.take_succ_cons, List.take_zero, List.drop_succ_cons, List.drop_zero, List.reverse_cons, List.reverse_nil, Int.reduceLE, Int.reduceLT, Int.reduceNeg, Int.reduceToNat, true_and, and_true, and_self, beq_iff_eq, Bool.and_eq_true, Bool.or_eq_true, or_false, false_or, or_true, true_or, and_false, false_and, hu_hr, hr_hr, hr_at, hr_nc, not_false_eq_true, Int.reduceEq, Int.pow_zero, Int.reducePow, Int.reduceMul, Int.reduceAdd, Int.reduceDiv, Int.reduceMod, Int.zero_add, Int.add_zero, Int.mul_one, Int.cast_ofNat_Int])
    exact rc_put (by omega) ⟨rfl, rfl⟩
set_option maxHeartbeats 4000000 in
set_option maxRecDepth 100000 in
theorem st_step {S : Hp} {t z : Int} {y : Option MV} {Q : Option MV → Hp → Prop} (hz : 0 ≤ z ∧ z < 3833) (h : ∀ y : Option MV, Wp 113 12 [some (.inr (0, 30)), some (.inl t), some (.inl (z + 1)), y] [] (hr (hr S 0 31 (up (S 0 31) z (S 0 33 z))) 0 33 (up (S 0 33) z (S 0 31 z))) Q) : Wp 113 12 [some (.inr (0, 30)), some (.inl t), some (.inl z), y] [] S Q := by
  refine vg_cut (fun m pc => (m == 113 && pc == 12)) (fun m => m == 113) 40 _ _ _ _ _ _ ?_
  repeat' first | (with_reducible refine vT ?_ ?_; · omega) | (with_reducible refine vF ?_ ?_; · omega) | (with_reducible refine vI (fun _ => ?_) (fun _ => ?_)) | (simp (config := {maxSteps := 1000000}) (disch := (first | assumption | omega | (rw [hr_at]; assumption) | (rw [hr_at]; omega))) only [f_X8_settle, wg_0, wg_s, wK_none, wK_N, wK_C, wK_R, wQ_some, wQ_none, stR, mZ, mC, stI, ini, mL, gI, gA, sI, sA, bi, gF, pF, kF, kT, kL, c2, mT, mR, f4, tsw, lsw, tgt, inR, Nat.reduceLT, Nat.reduceLeDiff, Nat.reduceEqDiff, Nat.reduceAdd, Nat.reduceSub, ↓reduceIte, Bool.false_eq_true, List.map_cons, List.map_nil, List.length_cons, List.length_nil, List.replicate, List.cons_append, List.nil_append, List.getElem?_cons_zero, List.getElem?_cons_succ, List.set, List.take_succ_cons, List.take_zero, List.drop_succ_cons, List.drop_zero, List.reverse_cons, List.reverse_nil, Int.reduceLE, Int.reduceLT, Int.reduceNeg, Int.reduceToNat, true_and, and_true, and_self, beq_iff_eq, Bool.and_eq_true, Bool.or_eq_true, or_false, false_or, or_true, true_or, and_false, false_and, hu_hr, hr_hr, hr_at, hr_nc, not_false_eq_true, Int.reduceEq, Int.pow_zero, Int.reducePow, Int.reduceMul, Int.reduceAdd, Int.reduceDiv, Int.reduceMod, Int.zero_add, Int.add_zero, Int.mul_one, Int.cast_ofNat_Int])
  exact h _
def rcS (S : Hp) (g : Int → Int) : Hp := hr (hr S 0 34 (rcH (S 0 34) (S 0 30 6) g)) 0 30 (up (S 0 30) 6 (rcK (S 0 30 6) + 1))
set_option maxHeartbeats 4000000 in
set_option maxRecDepth 100000 in
theorem st_end {S : Hp} {t : Int} {y : Option MV} {Q : Option MV → Hp → Prop} (hk : 0 ≤ S 0 30 6 ∧ S 0 30 6 ≤ 4) (h : Q (some (.inl t)) (hr (rcS S (S 0 31)) 0 31 (cpF (S 0 31) (S 0 33) 3833))) : Wp 113 12 [some (.inr (0, 30)), some (.inl t), some (.inl 3833), y] [] S Q := by
  unfold rcS at h
  refine vg_cut (fun m pc => (m == 113 && pc == 12)) (fun m => m == 113) 40 _ _ _ _ _ _ ?_
  repeat' first | (with_reducible refine vT ?_ ?_; · omega) | (with_reducible refine vF ?_ ?_; · omega) | (with_reducible refine vI (fun _ => ?_) (fun _ => ?_)) | (simp (config := {maxSteps := 1000000}) (disch := (first | assumption | omega | (rw [hr_at]; assumption) | (rw [hr_at]; omega))) only [f_X8_settle, wg_0, wg_s, wK_none, wK_N, wK_C, wK_R, wQ_some, wQ_none, stR, mZ, mC, stI, ini, mL, gI, gA, sI, sA, bi, gF, pF, kF, kT, kL, c2, mT, mR, f4, tsw, lsw, tgt, inR, Nat.reduceLT, Nat.reduceLeDiff, Nat.reduceEqDiff, Nat.reduceAdd, Nat.reduceSub, ↓reduceIte, Bool.false_eq_true, List.map_cons, List.map_nil, List.length_cons, List.length_nil, List.replicate, List.cons_append, List.nil_append, List.getElem?_cons_zero, List.getElem?_cons_succ, List.set, List.take_succ_cons, List.take_zero, List.drop_succ_cons, List.drop_zero, List.reverse_cons, List.reverse_nil, Int.reduceLE, Int.reduceLT, Int.reduceNeg, Int.reduceToNat, true_and, and_true, and_self, beq_iff_eq, Bool.and_eq_true, Bool.or_eq_true, or_false, false_or, or_true, true_or, and_false, false_and, hu_hr, hr_hr, hr_at, hr_nc, not_false_eq_true, Int.reduceEq, Int.pow_zero, Int.reducePow, Int.reduceMul, Int.reduceAdd, Int.reduceDiv, Int.reduceMod, Int.zero_add, Int.add_zero, Int.mul_one, Int.cast_ofNat_Int, m_record, m_takeBack])
  exact h
set_option maxHeartbeats 4000000 in
set_option maxRecDepth 100000 in
theorem cpF_cc (f g : Int → Int) (n : Int) : cpF (cpF f g n) (cpF g f n) n = f := by
  funext j
  unfold cpF
  by_cases h : 0 ≤ j ∧ j < n
  · rw [if_pos h, if_pos h]
  · rw [if_neg h, if_neg h]
def setS (S : Hp) (t : Int) : Hp := if t < 0 then hr S 0 31 (cpF (S 0 31) (S 0 33) 3833) else hr (rcS S (cpF (S 0 31) (S 0 33) 3833)) 0 33 (cpF (S 0 33) (S 0 31) 3833)
set_option maxHeartbeats 4000000 in
set_option maxRecDepth 100000 in
theorem st_loop {S : Hp} {t : Int} {y : Option MV} {Q : Option MV → Hp → Prop} (h : ∀ y : Option MV, Wp 113 12 [some (.inr (0, 30)), some (.inl t), some (.inl 3833), y] [] (hr (hr S 0 31 (cpF (S 0 31) (S 0 33) 3833)) 0 33 (cpF (S 0 33) (S 0 31) 3833)) Q) : Wp 113 12 [some (.inr (0, 30)), some (.inl t), some (.inl 0), y] [] S Q := by
  have key : ∀ (d : Nat) (z : Int) (y : Option MV), 0 ≤ z → z + d = 3833 → Wp 113 12 [some (.inr (0, 30)), some (.inl t), some (.inl z), y] [] (hr (hr S 0 31 (cpF (S 0 31) (S 0 33) z)) 0 33 (cpF (S 0 33) (S 0 31) z)) Q := by
    intro d
    induction d with
    | zero =>
      intro z y hz hd
      obtain rfl : z = 3833 := by omega
      exact h y
    | succ d ih =>
      intro z y hz hd
      refine st_step (by omega) (fun y => ?_)
      have i := ih (z + 1) y (by omega) (by omega)
      rw [hr_at, hr_nc (by decide), hr_at, cpF_out (n := z) (f := S 0 33) (by omega), cpF_out (n := z) (f := S 0 31) (by omega), cpF_s _ _ hz, cpF_s _ _ hz, hr_comm _ _ _ (by decide), hr_hr, hr_comm _ _ _ (by decide), hr_hr]
      exact i
  have k := key 3833 0 y (by omega) (by omega)
  rw [cpF_0, cpF_0, hr_id] at k
  have e : hr S 0 33 (S 0 33) = S := hr_id S 0 33
  rw [e] at k
  exact k
set_option maxHeartbeats 4000000 in
set_option maxRecDepth 100000 in
theorem m_settle {S : Hp} {t : Int} (hk : 0 ≤ S 0 30 6 ∧ S 0 30 6 ≤ 4) (ht : -2147483648 ≤ t ∧ t < 2147483648) (Q : Option MV → Hp → Prop) : Wc 113 [.inr (0, 30), .inl t] S Q = Q (some (.inl t)) (setS S t) := by
  refine Wc_eq ?_ Q
  unfold Wc setS
  by_cases h : t < 0
  · rw [if_pos h]
    refine vg_sound (fun m pc => (m == 113 && pc == 12)) (fun m => m == 113) 10 _ _ _ _ _ _ ?_
    repeat' first | (with_reducible refine vT ?_ ?_; · omega) | (with_reducible refine vF ?_ ?_; · omega) | (with_reducible refine vI (fun _ => ?_) (fun _ => ?_)) | (simp (config := {maxSteps := 1000000}) (disch := (first | assumption | omega | (rw [hr_at]; assumption) | (rw [hr_at]; omega))) only [f_X8_settle, wg_0, wg_s, wK_none, wK_N, wK_C, wK_R, wQ_some, wQ_none, stR, mZ, mC, stI, ini, mL, gI, gA, sI, sA, bi, gF, pF, kF, kT, kL, c2, mT, mR, f4, tsw, lsw, tgt, inR, Nat.reduceLT, Nat.reduceLeDiff, Nat.reduceEqDiff, Nat.reduceAdd, Nat.reduceSub, ↓reduceIte, Bool.false_eq_true, List.map_cons, List.map_nil, List.length_cons, List.length_nil, List.replicate, List.cons_append, List.nil_append, List.getElem?_cons_zero, List.getElem?_cons_succ, List.set, List.take_succ_cons, List.take_zero, List.drop_succ_cons, List.drop_zero, List.reverse_cons, List.reverse_nil, Int.reduceLE, Int.reduceLT, Int.reduceNeg, Int.reduceToNat, true_and, and_true, and_self, beq_iff_eq, Bool.and_eq_true, Bool.or_eq_true, or_false, false_or, or_true, true_or, and_false, false_and, hu_hr, hr_hr, hr_at, hr_nc, not_false_eq_true, Int.reduceEq, Int.pow_zero, Int.reducePow, Int.reduceMul, Int.reduceAdd, Int.reduceDiv, Int.reduceMod, Int.zero_add, Int.add_zero, Int.mul_one, Int.cast_ofNat_Int, m_takeBack])
    all_goals exact ⟨rfl, rfl⟩
  · rw [if_neg h]
    refine vg_sound (fun m pc => (m == 113 && pc == 12)) (fun m => m == 113) 10 _ _ _ _ _ _ ?_
    repeat' first | (with_reducible refine vT ?_ ?_; · omega) | (with_reducible refine vF ?_ ?_; · omega) | (with_reducible refine vI (fun _ => ?_) (fun _ => ?_)) | (simp (config := {maxSteps := 1000000}) (disch := (first | assumption | omega | (rw [hr_at]; assumption) | (rw [hr_at]; omega))) only [f_X8_settle, wg_0, wg_s, wK_none, wK_N, wK_C, wK_R, wQ_some, wQ_none, stR, mZ, mC, stI, ini, mL, gI, gA, sI, sA, bi, gF, pF, kF, kT, kL, c2, mT, mR, f4, tsw, lsw, tgt, inR, Nat.reduceLT, Nat.reduceLeDiff, Nat.reduceEqDiff, Nat.reduceAdd, Nat.reduceSub, ↓reduceIte, Bool.false_eq_true, List.map_cons, List.map_nil, List.length_cons, List.length_nil, List.replicate, List.cons_append, List.nil_append, List.getElem?_cons_zero, List.getElem?_cons_succ, List.set, List.take_succ_cons, List.take_zero, List.drop_succ_cons, List.drop_zero, List.reverse_cons, List.reverse_nil, Int.reduceLE, Int.reduceLT, Int.reduceNeg, Int.reduceToNat, true_and, and_true, and_self, beq_iff_eq, Bool.and_eq_true, Bool.or_eq_true, or_false, false_or, or_true, true_or, and_false, false_and, hu_hr, hr_hr, hr_at, hr_nc, not_false_eq_true, Int.reduceEq, Int.pow_zero, Int.reducePow, Int.reduceMul, Int.reduceAdd, Int.reduceDiv, Int.reduceMod, Int.zero_add, Int.add_zero, Int.mul_one, Int.cast_ofNat_Int])
    refine st_loop (fun y => st_end ?_ ⟨rfl, ?_⟩)
    · rw [hr_nc (by decide), hr_nc (by decide)]
      exact hk
    · unfold rcS
      simp (disch := decide) only [hr_at, hr_nc, cpF_cc]
      funext a b
      unfold hr
      by_cases h0 : a = 0
      · subst h0
        by_cases h1 : b = 33
        · subst h1; simp
        · by_cases h2 : b = 31
          · subst h2; simp
          · simp [h1, h2]
      · simp [h0]
