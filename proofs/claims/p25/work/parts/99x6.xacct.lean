/-! THE LAW: accounts -/
section ACC
variable {S : Hp} {M : Int → Int}
set_option maxHeartbeats 4000000 in
set_option maxRecDepth 100000 in
theorem q_count (hG : GM (S (nw S)) M) {a : Int} (ha : 0 ≤ a ∧ a < 12) (Q : Option MV → Hp → Prop) : Wc 80 [.inr (0, 23), .inl a] S Q = Q (some (.inl (toV (S (nw S)) a))) S := by
  have r := r_count (al := 0) (f := S 0 30) hG ha Q
  rw [hr_id] at r
  exact r
set_option maxHeartbeats 4000000 in
set_option maxRecDepth 100000 in
theorem q_window (hG : GM (S (nw S)) M) {w a : Int} (hw : 0 ≤ w ∧ w < 3) (ha : 0 ≤ a ∧ a < 10) (Q : Option MV → Hp → Prop) : Wc 79 [.inr (0, 23), .inl w, .inl a] S Q = Q (some (.inl (if a = 5 then mkV (S (nw S)) w else wtV (S (nw S)) w a))) S := by
  have r := r_window (al := 0) (f := S 0 30) hG hw ha Q
  rw [hr_id] at r
  exact r
set_option maxHeartbeats 4000000 in
set_option maxRecDepth 100000 in
theorem q_draw (hG : GM (S (nw S)) M) {d a : Int} (hd : 0 ≤ d ∧ d < 6) (ha : 0 ≤ a ∧ a < 8) (Q : Option MV → Hp → Prop) : Wc 78 [.inr (0, 23), .inl d, .inl a] S Q = Q (some (.inl (dtV (S (nw S)) d a))) S := by
  have r := r_draw (al := 0) (f := S 0 30) hG hd ha Q
  rw [hr_id] at r
  exact r
set_option maxHeartbeats 4000000 in
set_option maxRecDepth 100000 in
theorem q_short (hG : GM (S (nw S)) M) (Q : Option MV → Hp → Prop) : Wc 85 [.inr (0, 23)] S Q = Q (some (.inl (shO (S (nw S))))) S := by
  have r := r_short (al := 0) (f := S 0 30) hG Q
  rw [hr_id] at r
  exact r
set_option maxHeartbeats 4000000 in
set_option maxRecDepth 100000 in
theorem q_paid (hG : GM (S (nw S)) M) {b : Int} (hb : b = 0 ∨ b = 1) (Q : Option MV → Hp → Prop) : Wc 81 [.inr (0, 23), .inl b] S Q = Q (some (.inl (ctS (S (nw S))))) S := by
  rw [c_paid hb hG.1.1.1.1.2.1 (RD_Wn hG.1.1.1.2.1) Q]
  have e : ctS (S (nw S)) = cbW (S (nw S)) := hG.2.1.1
  rw [← e]
  split <;> rfl
set_option maxHeartbeats 4000000 in
set_option maxRecDepth 100000 in
theorem a1_step (hG : GM (S (nw S)) M) {p q z : Int} {y4 y5 y6 y7 : Option MV} {Q : Option MV → Hp → Prop} (hz : 0 ≤ z ∧ z < 6) (h : Wp 100 6 [some (.inr (0, 23)), some (.inl (p + S (nw S) 6 z * 10)), some (.inl (q + apV (S (nw S)) z)), some (.inl (z + 1)), y4, y5, y6, y7] [] S Q) : Wp 100 6 [some (.inr (0, 23)), some (.inl p), some (.inl q), some (.inl z), y4, y5, y6, y7] [] S Q := by
  obtain ⟨d1, d2, d3⟩ := DrOk_of hG.1.1.1 hz
  have r0 : ∀ Q : Option MV → Hp → Prop, Wc 78 [.inr (0, 23), .inl z, .inl 0] S Q = Q (some (.inl (S (nw S) 6 z * 10))) S := fun Q => q_draw (a := 0) hG hz (by omega) Q
  have r1 : ∀ Q : Option MV → Hp → Prop, Wc 78 [.inr (0, 23), .inl z, .inl 1] S Q = Q (some (.inl (S (nw S) 6 z))) S := fun Q => q_draw (a := 1) hG hz (by omega) Q
  have r7 : ∀ Q : Option MV → Hp → Prop, Wc 78 [.inr (0, 23), .inl z, .inl 7] S Q = Q (some (.inl (apV (S (nw S)) z))) S := fun Q => q_draw (a := 7) hG hz (by omega) Q
  have r2 : ∀ Q : Option MV → Hp → Prop, Wc 78 [.inr (0, 23), .inl z, .inl 2] S Q = Q (some (.inl (if S (nw S) 7 z = -5 then 0 else 1))) S := fun Q => q_draw (a := 2) hG hz (by omega) Q
  generalize apV (S (nw S)) z = ap at *
  generalize S (nw S) 6 z = o6 at *
  by_cases e : S (nw S) 7 z = -5
  · have d4 := d3 e
    rw [if_pos e] at r2
    refine vg_cut (fun m pc => (m == 100 && pc == 6)) (fun m => m == 100) 100 _ _ _ _ _ _ ?_
    repeat' first | (with_reducible refine vT ?_ ?_; · omega) | (with_reducible refine vF ?_ ?_; · omega) | (with_reducible refine vI (fun _ => ?_) (fun _ => ?_)) | (simp (config := {maxSteps := 1000000}) (disch := (first | assumption | omega | (rw [hr_at]; assumption) | (rw [hr_at]; omega))) only [f_L_accounts, wg_0, wg_s, wK_none, wK_N, wK_C, wK_R, wQ_some, wQ_none, stR, mZ, mC, stI, ini, mL, gI, gA, sI, sA, bi, gF, pF, kF, kT, kL, c2, mT, mR, f4, tsw, lsw, tgt, inR, Nat.reduceLT, Nat.reduceLeDiff, Nat.reduceEqDiff, Nat.reduceAdd, Nat.reduceSub, ↓reduceIte, Bool.false_eq_true, List.map_cons, List.map_nil, List.length_cons, List.length_nil, List.replicate, List.cons_append, List.nil_append, List.getElem?_cons_zero, List.getElem?_cons_succ, List.set, List.take_succ_cons, List.take_zero, List.drop_succ_cons, List.drop_zero, List.reverse_cons, List.reverse_nil, Int.reduceLE, Int.reduceLT, Int.reduceNeg, Int.reduceToNat, true_and, and_true, and_self, beq_iff_eq, Bool.and_eq_true, Bool.or_eq_true, or_false, false_or, or_true, true_or, and_false, false_and, hu_hr, hr_hr, hr_at, hr_nc, not_false_eq_true, Int.reduceEq, Int.pow_zero, Int.reducePow, Int.reduceMul, Int.reduceAdd, Int.reduceDiv, Int.reduceMod, Int.zero_add, Int.add_zero, Int.mul_one, Int.cast_ofNat_Int, r0, r1, r7, r2])
    exact h
  · rw [if_neg e] at r2
    refine vg_cut (fun m pc => (m == 100 && pc == 6)) (fun m => m == 100) 100 _ _ _ _ _ _ ?_
    repeat' first | (with_reducible refine vT ?_ ?_; · omega) | (with_reducible refine vF ?_ ?_; · omega) | (with_reducible refine vI (fun _ => ?_) (fun _ => ?_)) | (simp (config := {maxSteps := 1000000}) (disch := (first | assumption | omega | (rw [hr_at]; assumption) | (rw [hr_at]; omega))) only [f_L_accounts, wg_0, wg_s, wK_none, wK_N, wK_C, wK_R, wQ_some, wQ_none, stR, mZ, mC, stI, ini, mL, gI, gA, sI, sA, bi, gF, pF, kF, kT, kL, c2, mT, mR, f4, tsw, lsw, tgt, inR, Nat.reduceLT, Nat.reduceLeDiff, Nat.reduceEqDiff, Nat.reduceAdd, Nat.reduceSub, ↓reduceIte, Bool.false_eq_true, List.map_cons, List.map_nil, List.length_cons, List.length_nil, List.replicate, List.cons_append, List.nil_append, List.getElem?_cons_zero, List.getElem?_cons_succ, List.set, List.take_succ_cons, List.take_zero, List.drop_succ_cons, List.drop_zero, List.reverse_cons, List.reverse_nil, Int.reduceLE, Int.reduceLT, Int.reduceNeg, Int.reduceToNat, true_and, and_true, and_self, beq_iff_eq, Bool.and_eq_true, Bool.or_eq_true, or_false, false_or, or_true, true_or, and_false, false_and, hu_hr, hr_hr, hr_at, hr_nc, not_false_eq_true, Int.reduceEq, Int.pow_zero, Int.reducePow, Int.reduceMul, Int.reduceAdd, Int.reduceDiv, Int.reduceMod, Int.zero_add, Int.add_zero, Int.mul_one, Int.cast_ofNat_Int, r0, r1, r7, r2])
    exact h
set_option maxHeartbeats 4000000 in
set_option maxRecDepth 100000 in
theorem a1_end {p q : Int} {y4 y5 y6 y7 : Option MV} {Q : Option MV → Hp → Prop} (h : Wp 100 109 [some (.inr (0, 23)), some (.inl p), some (.inl q), some (.inl 0), some (.inl 0), some (.inl 0), some (.inl 0), y7] [] S Q) : Wp 100 6 [some (.inr (0, 23)), some (.inl p), some (.inl q), some (.inl 6), y4, y5, y6, y7] [] S Q := by
  refine vg_cut (fun m pc => (m == 100 && pc == 6) || (m == 100 && pc == 109)) (fun m => m == 100) 40 _ _ _ _ _ _ ?_
  repeat' first | (with_reducible refine vT ?_ ?_; · omega) | (with_reducible refine vF ?_ ?_; · omega) | (with_reducible refine vI (fun _ => ?_) (fun _ => ?_)) | (simp (config := {maxSteps := 1000000}) (disch := (first | assumption | omega | (rw [hr_at]; assumption) | (rw [hr_at]; omega))) only [f_L_accounts, wg_0, wg_s, wK_none, wK_N, wK_C, wK_R, wQ_some, wQ_none, stR, mZ, mC, stI, ini, mL, gI, gA, sI, sA, bi, gF, pF, kF, kT, kL, c2, mT, mR, f4, tsw, lsw, tgt, inR, Nat.reduceLT, Nat.reduceLeDiff, Nat.reduceEqDiff, Nat.reduceAdd, Nat.reduceSub, ↓reduceIte, Bool.false_eq_true, List.map_cons, List.map_nil, List.length_cons, List.length_nil, List.replicate, List.cons_append, List.nil_append, List.getElem?_cons_zero, List.getElem?_cons_succ, List.set, List.take_succ_cons, List.take_zero, List.drop_succ_cons, List.drop_zero, List.reverse_cons, List.reverse_nil, Int.reduceLE, Int.reduceLT, Int.reduceNeg, Int.reduceToNat, true_and, and_true, and_self, beq_iff_eq, Bool.and_eq_true, Bool.or_eq_true, or_false, false_or, or_true, true_or, and_false, false_and, hu_hr, hr_hr, hr_at, hr_nc, not_false_eq_true, Int.reduceEq, Int.pow_zero, Int.reducePow, Int.reduceMul, Int.reduceAdd, Int.reduceDiv, Int.reduceMod, Int.zero_add, Int.add_zero, Int.mul_one, Int.cast_ofNat_Int])
  exact h
set_option maxHeartbeats 4000000 in
set_option maxRecDepth 100000 in
theorem a2_step (hG : GM (S (nw S)) M) {p q c d r z : Int} {y7 : Option MV} {Q : Option MV → Hp → Prop} (hz : 0 ≤ z ∧ z < 3) (h : Wp 100 109 [some (.inr (0, 23)), some (.inl p), some (.inl q), some (.inl (c + S (nw S) 14 z)), some (.inl (d + S (nw S) 15 z)), some (.inl (r + S (nw S) 11 z)), some (.inl (z + 1)), y7] [] S Q) : Wp 100 109 [some (.inr (0, 23)), some (.inl p), some (.inl q), some (.inl c), some (.inl d), some (.inl r), some (.inl z), y7] [] S Q := by
  have rw_ := fun (a : Int) (ha : 0 ≤ a ∧ a < 10) (Q : Option MV → Hp → Prop) => q_window (a := a) hG hz ha Q
  have r0 : ∀ Q : Option MV → Hp → Prop, Wc 79 [.inr (0, 23), .inl z, .inl 0] S Q = Q (some (.inl (S (nw S) 11 z))) S := fun Q => rw_ 0 (by omega) Q
  have r2 : ∀ Q : Option MV → Hp → Prop, Wc 79 [.inr (0, 23), .inl z, .inl 2] S Q = Q (some (.inl (if S (nw S) 12 z = -5 then 0 else 1))) S := fun Q => rw_ 2 (by omega) Q
  have r3 : ∀ Q : Option MV → Hp → Prop, Wc 79 [.inr (0, 23), .inl z, .inl 3] S Q = Q (some (.inl (S (nw S) 12 z))) S := fun Q => rw_ 3 (by omega) Q
  have r4 : ∀ Q : Option MV → Hp → Prop, Wc 79 [.inr (0, 23), .inl z, .inl 4] S Q = Q (some (.inl (if S (nw S) 12 z = -5 then 0 else S (nw S) 13 z))) S := fun Q => rw_ 4 (by omega) Q
  have r5 : ∀ Q : Option MV → Hp → Prop, Wc 79 [.inr (0, 23), .inl z, .inl 5] S Q = Q (some (.inl (mkV (S (nw S)) z))) S := fun Q => rw_ 5 (by omega) Q
  have r6 : ∀ Q : Option MV → Hp → Prop, Wc 79 [.inr (0, 23), .inl z, .inl 6] S Q = Q (some (.inl (S (nw S) 14 z))) S := fun Q => rw_ 6 (by omega) Q
  have r7 : ∀ Q : Option MV → Hp → Prop, Wc 79 [.inr (0, 23), .inl z, .inl 7] S Q = Q (some (.inl (S (nw S) 15 z))) S := fun Q => rw_ 7 (by omega) Q
  have r8 : ∀ Q : Option MV → Hp → Prop, Wc 79 [.inr (0, 23), .inl z, .inl 8] S Q = Q (some (.inl (S (nw S) 16 z))) S := fun Q => rw_ 8 (by omega) Q
  have r9 : ∀ Q : Option MV → Hp → Prop, Wc 79 [.inr (0, 23), .inl z, .inl 9] S Q = Q (some (.inl (S (nw S) 17 z))) S := fun Q => rw_ 9 (by omega) Q
  clear rw_
  have hm := mk_py hG.1.1.1 hG.1.2.1 hz
  have hp : 0 ≤ S (nw S) 15 z := by
    have b := (hG.1.1.1.2.2.2.1 z hz.1 hz.2).2.2.2.2.2.2.1
    have c := (hG.1.1.2.2.1 z hz.1 hz.2).1
    omega
  have ha := hG.2.1.2.1 z hz.1 hz.2
  have h0 : S (nw S) 0 0 ≤ 9999 := by rw [hG.1.1.1.2.2.2.2.2.2.1.1.1]; exact hG.1.2.2
  have h12 := (RR_o12 hG.1.1.1 z hz.1 hz.2).2
  have g5 : S (nw S) 12 z = -5 ∨ 0 ≤ S (nw S) 12 z := by
    have b := (hG.1.1.1.2.2.2.1 z hz.1 hz.2).2.2.2.1
    rw [b.2]
    split <;> omega
  generalize mkV (S (nw S)) z = o5 at *
  generalize S (nw S) 14 z = o14 at *
  generalize S (nw S) 15 z = o15 at *
  generalize S (nw S) 16 z = o16 at *
  generalize S (nw S) 17 z = o17 at *
  generalize S (nw S) 11 z = o11 at *
  generalize S (nw S) 12 z = o12 at *
  generalize S (nw S) 13 z = o13 at *
  by_cases e12 : o12 = -5
  · rw [if_pos e12] at r2 r4
    by_cases e16 : o16 = 0
    · have e17 := ha.2.1.mp e16
      refine vg_cut (fun m pc => (m == 100 && pc == 109)) (fun m => m == 100) 200 _ _ _ _ _ _ ?_
      repeat' first | (with_reducible refine vT ?_ ?_; · omega) | (with_reducible refine vF ?_ ?_; · omega) | (with_reducible refine vI (fun _ => ?_) (fun _ => ?_)) | (simp (config := {maxSteps := 1000000}) (disch := (first | assumption | omega | (rw [hr_at]; assumption) | (rw [hr_at]; omega))) only [f_L_accounts, wg_0, wg_s, wK_none, wK_N, wK_C, wK_R, wQ_some, wQ_none, stR, mZ, mC, stI, ini, mL, gI, gA, sI, sA, bi, gF, pF, kF, kT, kL, c2, mT, mR, f4, tsw, lsw, tgt, inR, Nat.reduceLT, Nat.reduceLeDiff, Nat.reduceEqDiff, Nat.reduceAdd, Nat.reduceSub, ↓reduceIte, Bool.false_eq_true, List.map_cons, List.map_nil, List.length_cons, List.length_nil, List.replicate, List.cons_append, List.nil_append, List.getElem?_cons_zero, List.getElem?_cons_succ, List.set, List.take_succ_cons, List.take_zero, List.drop_succ_cons, List.drop_zero, List.reverse_cons, List.reverse_nil, Int.reduceLE, Int.reduceLT, Int.reduceNeg, Int.reduceToNat, true_and, and_true, and_self, beq_iff_eq, Bool.and_eq_true, Bool.or_eq_true, or_false, false_or, or_true, true_or, and_false, false_and, hu_hr, hr_hr, hr_at, hr_nc, not_false_eq_true, Int.reduceEq, Int.pow_zero, Int.reducePow, Int.reduceMul, Int.reduceAdd, Int.reduceDiv, Int.reduceMod, Int.zero_add, Int.add_zero, Int.mul_one, Int.cast_ofNat_Int, r0, r2, r3, r4, r5, r6, r7, r8, r9])
      all_goals exact h
    · have e17 : ¬ o17 = 0 := fun q => e16 (ha.2.1.mpr q)
      refine vg_cut (fun m pc => (m == 100 && pc == 109)) (fun m => m == 100) 200 _ _ _ _ _ _ ?_
      repeat' first | (with_reducible refine vT ?_ ?_; · omega) | (with_reducible refine vF ?_ ?_; · omega) | (with_reducible refine vI (fun _ => ?_) (fun _ => ?_)) | (simp (config := {maxSteps := 1000000}) (disch := (first | assumption | omega | (rw [hr_at]; assumption) | (rw [hr_at]; omega))) only [f_L_accounts, wg_0, wg_s, wK_none, wK_N, wK_C, wK_R, wQ_some, wQ_none, stR, mZ, mC, stI, ini, mL, gI, gA, sI, sA, bi, gF, pF, kF, kT, kL, c2, mT, mR, f4, tsw, lsw, tgt, inR, Nat.reduceLT, Nat.reduceLeDiff, Nat.reduceEqDiff, Nat.reduceAdd, Nat.reduceSub, ↓reduceIte, Bool.false_eq_true, List.map_cons, List.map_nil, List.length_cons, List.length_nil, List.replicate, List.cons_append, List.nil_append, List.getElem?_cons_zero, List.getElem?_cons_succ, List.set, List.take_succ_cons, List.take_zero, List.drop_succ_cons, List.drop_zero, List.reverse_cons, List.reverse_nil, Int.reduceLE, Int.reduceLT, Int.reduceNeg, Int.reduceToNat, true_and, and_true, and_self, beq_iff_eq, Bool.and_eq_true, Bool.or_eq_true, or_false, false_or, or_true, true_or, and_false, false_and, hu_hr, hr_hr, hr_at, hr_nc, not_false_eq_true, Int.reduceEq, Int.pow_zero, Int.reducePow, Int.reduceMul, Int.reduceAdd, Int.reduceDiv, Int.reduceMod, Int.zero_add, Int.add_zero, Int.mul_one, Int.cast_ofNat_Int, r0, r2, r3, r4, r5, r6, r7, r8, r9])
      all_goals exact h
  · rw [if_neg e12] at r2 r4
    by_cases e16 : o16 = 0
    · have e17 := ha.2.1.mp e16
      refine vg_cut (fun m pc => (m == 100 && pc == 109)) (fun m => m == 100) 200 _ _ _ _ _ _ ?_
      repeat' first | (with_reducible refine vT ?_ ?_; · omega) | (with_reducible refine vF ?_ ?_; · omega) | (with_reducible refine vI (fun _ => ?_) (fun _ => ?_)) | (simp (config := {maxSteps := 1000000}) (disch := (first | assumption | omega | (rw [hr_at]; assumption) | (rw [hr_at]; omega))) only [f_L_accounts, wg_0, wg_s, wK_none, wK_N, wK_C, wK_R, wQ_some, wQ_none, stR, mZ, mC, stI, ini, mL, gI, gA, sI, sA, bi, gF, pF, kF, kT, kL, c2, mT, mR, f4, tsw, lsw, tgt, inR, Nat.reduceLT, Nat.reduceLeDiff, Nat.reduceEqDiff, Nat.reduceAdd, Nat.reduceSub, ↓reduceIte, Bool.false_eq_true, List.map_cons, List.map_nil, List.length_cons, List.length_nil, List.replicate, List.cons_append, List.nil_append, List.getElem?_cons_zero, List.getElem?_cons_succ, List.set, List.take_succ_cons, List.take_zero, List.drop_succ_cons, List.drop_zero, List.reverse_cons, List.reverse_nil, Int.reduceLE, Int.reduceLT, Int.reduceNeg, Int.reduceToNat, true_and, and_true, and_self, beq_iff_eq, Bool.and_eq_true, Bool.or_eq_true, or_false, false_or, or_true, true_or, and_false, false_and, hu_hr, hr_hr, hr_at, hr_nc, not_false_eq_true, Int.reduceEq, Int.pow_zero, Int.reducePow, Int.reduceMul, Int.reduceAdd, Int.reduceDiv, Int.reduceMod, Int.zero_add, Int.add_zero, Int.mul_one, Int.cast_ofNat_Int, r0, r2, r3, r4, r5, r6, r7, r8, r9])
      all_goals exact h
    · have e17 : ¬ o17 = 0 := fun q => e16 (ha.2.1.mpr q)
      refine vg_cut (fun m pc => (m == 100 && pc == 109)) (fun m => m == 100) 200 _ _ _ _ _ _ ?_
      repeat' first | (with_reducible refine vT ?_ ?_; · omega) | (with_reducible refine vF ?_ ?_; · omega) | (with_reducible refine vI (fun _ => ?_) (fun _ => ?_)) | (simp (config := {maxSteps := 1000000}) (disch := (first | assumption | omega | (rw [hr_at]; assumption) | (rw [hr_at]; omega))) only [f_L_accounts, wg_0, wg_s, wK_none, wK_N, wK_C, wK_R, wQ_some, wQ_none, stR, mZ, mC, stI, ini, mL, gI, gA, sI, sA, bi, gF, pF, kF, kT, kL, c2, mT, mR, f4, tsw, lsw, tgt, inR, Nat.reduceLT, Nat.reduceLeDiff, Nat.reduceEqDiff, Nat.reduceAdd, Nat.reduceSub, ↓reduceIte, Bool.false_eq_true, List.map_cons, List.map_nil, List.length_cons, List.length_nil, List.replicate, List.cons_append, List.nil_append, List.getElem?_cons_zero, List.getElem?_cons_succ, List.set, List.take_succ_cons, List.take_zero, List.drop_succ_cons, List.drop_zero, List.reverse_cons, List.reverse_nil, Int.reduceLE, Int.reduceLT, Int.reduceNeg, Int.reduceToNat, true_and, and_true, and_self, beq_iff_eq, Bool.and_eq_true, Bool.or_eq_true, or_false, false_or, or_true, true_or, and_false, false_and, hu_hr, hr_hr, hr_at, hr_nc, not_false_eq_true, Int.reduceEq, Int.pow_zero, Int.reducePow, Int.reduceMul, Int.reduceAdd, Int.reduceDiv, Int.reduceMod, Int.zero_add, Int.add_zero, Int.mul_one, Int.cast_ofNat_Int, r0, r2, r3, r4, r5, r6, r7, r8, r9])
      all_goals exact h
set_option maxHeartbeats 4000000 in
set_option maxRecDepth 100000 in
theorem sh_min (O : Of) : (0 ≤ shO O ∧ shO O < 3) ∧ O 11 (shO O) ≤ O 11 0 ∧ O 11 (shO O) ≤ O 11 1 ∧ O 11 (shO O) ≤ O 11 2 ∧ (O 11 (shO O) = O 11 0 ∨ O 11 (shO O) = O 11 1 ∨ O 11 (shO O) = O 11 2) := by
  unfold shO shB
  by_cases c1 : O 11 1 < O 11 0 ∨ (O 11 1 = O 11 0 ∧ ¬ O 12 0 = -5 ∧ O 12 1 = -5)
  · rw [if_pos c1]
    by_cases c2 : O 11 2 < O 11 1 ∨ (O 11 2 = O 11 1 ∧ ¬ O 12 1 = -5 ∧ O 12 2 = -5)
    · rw [if_pos c2]; omega
    · rw [if_neg c2]; omega
  · rw [if_neg c1]
    by_cases c2 : O 11 2 < O 11 0 ∨ (O 11 2 = O 11 0 ∧ ¬ O 12 0 = -5 ∧ O 12 2 = -5)
    · rw [if_pos c2]; omega
    · rw [if_neg c2]; omega
set_option maxHeartbeats 4000000 in
set_option maxRecDepth 100000 in
theorem a3_end (hG : GM (S (nw S)) M) {y7 : Option MV} {Q : Option MV → Hp → Prop} (h : Q (some (.inl 1)) S) : Wp 100 109 [some (.inr (0, 23)), some (.inl (apS (S (nw S)))), some (.inl (apA (S (nw S)))), some (.inl (s3 (S (nw S) 14))), some (.inl (s3 (S (nw S) 15))), some (.inl (s3 (S (nw S) 11))), some (.inl 3), y7] [] S Q := by
  obtain ⟨m0, m1, m2, m3, m4⟩ := sh_min (S (nw S))
  have rw_ := fun (z : Int) (hz : 0 ≤ z ∧ z < 3) (Q : Option MV → Hp → Prop) => q_window (a := 0) hG hz (by omega) Q
  have w0 : ∀ Q : Option MV → Hp → Prop, Wc 79 [.inr (0, 23), .inl 0, .inl 0] S Q = Q (some (.inl (S (nw S) 11 0))) S := fun Q => rw_ 0 (by omega) Q
  have w1 : ∀ Q : Option MV → Hp → Prop, Wc 79 [.inr (0, 23), .inl 1, .inl 0] S Q = Q (some (.inl (S (nw S) 11 1))) S := fun Q => rw_ 1 (by omega) Q
  have w2 : ∀ Q : Option MV → Hp → Prop, Wc 79 [.inr (0, 23), .inl 2, .inl 0] S Q = Q (some (.inl (S (nw S) 11 2))) S := fun Q => rw_ 2 (by omega) Q
  have ws : ∀ Q : Option MV → Hp → Prop, Wc 79 [.inr (0, 23), .inl (shO (S (nw S))), .inl 0] S Q = Q (some (.inl (S (nw S) 11 (shO (S (nw S)))))) S := fun Q => rw_ _ m0 Q
  clear rw_
  have k1 : ∀ Q : Option MV → Hp → Prop, Wc 80 [.inr (0, 23), .inl 1] S Q = Q (some (.inl (S (nw S) 18 0))) S := fun Q => q_count (a := 1) hG (by omega) Q
  have k2 : ∀ Q : Option MV → Hp → Prop, Wc 80 [.inr (0, 23), .inl 2] S Q = Q (some (.inl (s3 (S (nw S) 14)))) S := fun Q => q_count (a := 2) hG (by omega) Q
  have k3 : ∀ Q : Option MV → Hp → Prop, Wc 80 [.inr (0, 23), .inl 3] S Q = Q (some (.inl (S (nw S) 0 10))) S := fun Q => q_count (a := 3) hG (by omega) Q
  have k4 : ∀ Q : Option MV → Hp → Prop, Wc 80 [.inr (0, 23), .inl 4] S Q = Q (some (.inl (apS (S (nw S))))) S := fun Q => q_count (a := 4) hG (by omega) Q
  have k5 : ∀ Q : Option MV → Hp → Prop, Wc 80 [.inr (0, 23), .inl 5] S Q = Q (some (.inl (s3 (S (nw S) 15)))) S := fun Q => q_count (a := 5) hG (by omega) Q
  have k8 : ∀ Q : Option MV → Hp → Prop, Wc 80 [.inr (0, 23), .inl 8] S Q = Q (some (.inl (S (nw S) 21 0))) S := fun Q => q_count (a := 8) hG (by omega) Q
  have k10 : ∀ Q : Option MV → Hp → Prop, Wc 80 [.inr (0, 23), .inl 10] S Q = Q (some (.inl (s3 (S (nw S) 11)))) S := fun Q => q_count (a := 10) hG (by omega) Q
  have p0 := fun Q => q_paid (b := 0) hG (Or.inl rfl) Q
  have p1 := fun Q => q_paid (b := 1) hG (Or.inr rfl) Q
  have ps := fun Q => q_short hG Q
  have b18 := RR_18 hG.1.1.1
  have b21 := (RR_St hG.1.1.1).2.2.2.1
  have hq : S (nw S) 18 0 = 0 → S (nw S) 21 0 = 0 → ctS (S (nw S)) ≤ apA (S (nw S)) := quiet_le hG.1.1.1 hG.2
  have hct : ctS (S (nw S)) = s3 (S (nw S) 14) - S (nw S) 0 10 := hG.2.1.1
  have hc0 : 0 ≤ ctS (S (nw S)) := by
    have z : sm (fun _ => (0 : Int)) 600 ≤ ctS (S (nw S)) := sm_le2 (fun k hk => by
      have ht : 0 ≤ (k : Int) ∧ (k : Int) < 600 := by omega
      have q0 := RF_le (w := 0) hG.1.1.1 ht (by omega)
      have q1 := RF_le (w := 1) hG.1.1.1 ht (by omega)
      have q2 := RF_le (w := 2) hG.1.1.1 ht (by omega)
      have f0 : fb (S (nw S)) k 11 ≤ fb (S (nw S)) k 8 := q0.2
      have f1 : fb (S (nw S)) k 12 ≤ fb (S (nw S)) k 9 := q1.2
      have f2 : fb (S (nw S)) k 13 ≤ fb (S (nw S)) k 10 := q2.2
      rw [ctV_unc]
      refine Int.mul_nonneg (by unfold unc; omega) ?_
      exact (prO_b (c := S (nw S) 3 (k : Int) / 8 % 4) (RD_Wn hG.1.1.1.2.1) (show 0 ≤ (k : Int) / 100 ∧ (k : Int) / 100 < 6 by omega) (by omega)).1)
    have e : ∀ n : Nat, sm (fun _ => (0 : Int)) n = 0 := fun n => by
      induction n with
      | zero => rfl
      | succ n ih => rw [sm_s, ih]; rfl
    rw [e 600] at z
    exact z
  have hap : 0 ≤ apA (S (nw S)) ∧ apA (S (nw S)) ≤ 10000 := by
    have q0 := DrOk_of (d := 0) hG.1.1.1 (by omega)
    have q1 := DrOk_of (d := 1) hG.1.1.1 (by omega)
    have q2 := DrOk_of (d := 2) hG.1.1.1 (by omega)
    have q3 := DrOk_of (d := 3) hG.1.1.1 (by omega)
    have q4 := DrOk_of (d := 4) hG.1.1.1 (by omega)
    have q5 := DrOk_of (d := 5) hG.1.1.1 (by omega)
    unfold apA
    omega
  have h11 := fun (w : Int) (w1 : 0 ≤ w) (w2 : w < 3) => (RR_o12 hG.1.1.1 w w1 w2).1
  have h110 := h11 0 (by omega) (by omega)
  have h111 := h11 1 (by omega) (by omega)
  have h112 := h11 2 (by omega) (by omega)
  clear h11
  generalize S (nw S) 11 (shO (S (nw S))) = ms at *
  generalize shO (S (nw S)) = sh at *
  generalize S (nw S) 11 0 = a0 at *
  generalize S (nw S) 11 1 = a1 at *
  generalize S (nw S) 11 2 = a2 at *
  generalize S (nw S) 18 0 = o18 at *
  generalize S (nw S) 21 0 = o21 at *
  generalize ctS (S (nw S)) = ct_ at *
  generalize apA (S (nw S)) = ap_ at *
  generalize apS (S (nw S)) = as_ at *
  generalize s3 (S (nw S) 14) = s14 at *
  generalize s3 (S (nw S) 15) = s15 at *
  generalize s3 (S (nw S) 11) = s11 at *
  generalize S (nw S) 0 10 = o10 at *
  by_cases e18 : o18 = 0
  · by_cases e21 : o21 = 0
    · have hq2 := hq e18 e21
      refine vg_cut (fun m pc => (m == 100 && pc == 109)) (fun m => m == 100) 300 _ _ _ _ _ _ ?_
      repeat' first | (with_reducible refine vT ?_ ?_; · omega) | (with_reducible refine vF ?_ ?_; · omega) | (with_reducible refine vI (fun _ => ?_) (fun _ => ?_)) | (simp (config := {maxSteps := 1000000}) (disch := (first | assumption | omega | (rw [hr_at]; assumption) | (rw [hr_at]; omega))) only [f_L_accounts, wg_0, wg_s, wK_none, wK_N, wK_C, wK_R, wQ_some, wQ_none, stR, mZ, mC, stI, ini, mL, gI, gA, sI, sA, bi, gF, pF, kF, kT, kL, c2, mT, mR, f4, tsw, lsw, tgt, inR, Nat.reduceLT, Nat.reduceLeDiff, Nat.reduceEqDiff, Nat.reduceAdd, Nat.reduceSub, ↓reduceIte, Bool.false_eq_true, List.map_cons, List.map_nil, List.length_cons, List.length_nil, List.replicate, List.cons_append, List.nil_append, List.getElem?_cons_zero, List.getElem?_cons_succ, List.set, List.take_succ_cons, List.take_zero, List.drop_succ_cons, List.drop_zero, List.reverse_cons, List.reverse_nil, Int.reduceLE, Int.reduceLT, Int.reduceNeg, Int.reduceToNat, true_and, and_true, and_self, beq_iff_eq, Bool.and_eq_true, Bool.or_eq_true, or_false, false_or, or_true, true_or, and_false, false_and, hu_hr, hr_hr, hr_at, hr_nc, not_false_eq_true, Int.reduceEq, Int.pow_zero, Int.reducePow, Int.reduceMul, Int.reduceAdd, Int.reduceDiv, Int.reduceMod, Int.zero_add, Int.add_zero, Int.mul_one, Int.cast_ofNat_Int, w0, w1, w2, ws, k1, k2, k3, k4, k5, k8, k10, p0, p1, ps])
      all_goals exact h
    · refine vg_cut (fun m pc => (m == 100 && pc == 109)) (fun m => m == 100) 300 _ _ _ _ _ _ ?_
      repeat' first | (with_reducible refine vT ?_ ?_; · omega) | (with_reducible refine vF ?_ ?_; · omega) | (with_reducible refine vI (fun _ => ?_) (fun _ => ?_)) | (simp (config := {maxSteps := 1000000}) (disch := (first | assumption | omega | (rw [hr_at]; assumption) | (rw [hr_at]; omega))) only [f_L_accounts, wg_0, wg_s, wK_none, wK_N, wK_C, wK_R, wQ_some, wQ_none, stR, mZ, mC, stI, ini, mL, gI, gA, sI, sA, bi, gF, pF, kF, kT, kL, c2, mT, mR, f4, tsw, lsw, tgt, inR, Nat.reduceLT, Nat.reduceLeDiff, Nat.reduceEqDiff, Nat.reduceAdd, Nat.reduceSub, ↓reduceIte, Bool.false_eq_true, List.map_cons, List.map_nil, List.length_cons, List.length_nil, List.replicate, List.cons_append, List.nil_append, List.getElem?_cons_zero, List.getElem?_cons_succ, List.set, List.take_succ_cons, List.take_zero, List.drop_succ_cons, List.drop_zero, List.reverse_cons, List.reverse_nil, Int.reduceLE, Int.reduceLT, Int.reduceNeg, Int.reduceToNat, true_and, and_true, and_self, beq_iff_eq, Bool.and_eq_true, Bool.or_eq_true, or_false, false_or, or_true, true_or, and_false, false_and, hu_hr, hr_hr, hr_at, hr_nc, not_false_eq_true, Int.reduceEq, Int.pow_zero, Int.reducePow, Int.reduceMul, Int.reduceAdd, Int.reduceDiv, Int.reduceMod, Int.zero_add, Int.add_zero, Int.mul_one, Int.cast_ofNat_Int, w0, w1, w2, ws, k1, k2, k3, k4, k5, k8, k10, p0, p1, ps])
      all_goals exact h
  · refine vg_cut (fun m pc => (m == 100 && pc == 109)) (fun m => m == 100) 300 _ _ _ _ _ _ ?_
    repeat' first | (with_reducible refine vT ?_ ?_; · omega) | (with_reducible refine vF ?_ ?_; · omega) | (with_reducible refine vI (fun _ => ?_) (fun _ => ?_)) | (simp (config := {maxSteps := 1000000}) (disch := (first | assumption | omega | (rw [hr_at]; assumption) | (rw [hr_at]; omega))) only [f_L_accounts, wg_0, wg_s, wK_none, wK_N, wK_C, wK_R, wQ_some, wQ_none, stR, mZ, mC, stI, ini, mL, gI, gA, sI, sA, bi, gF, pF, kF, kT, kL, c2, mT, mR, f4, tsw, lsw, tgt, inR, Nat.reduceLT, Nat.reduceLeDiff, Nat.reduceEqDiff, Nat.reduceAdd, Nat.reduceSub, ↓reduceIte, Bool.false_eq_true, List.map_cons, List.map_nil, List.length_cons, List.length_nil, List.replicate, List.cons_append, List.nil_append, List.getElem?_cons_zero, List.getElem?_cons_succ, List.set, List.take_succ_cons, List.take_zero, List.drop_succ_cons, List.drop_zero, List.reverse_cons, List.reverse_nil, Int.reduceLE, Int.reduceLT, Int.reduceNeg, Int.reduceToNat, true_and, and_true, and_self, beq_iff_eq, Bool.and_eq_true, Bool.or_eq_true, or_false, false_or, or_true, true_or, and_false, false_and, hu_hr, hr_hr, hr_at, hr_nc, not_false_eq_true, Int.reduceEq, Int.pow_zero, Int.reducePow, Int.reduceMul, Int.reduceAdd, Int.reduceDiv, Int.reduceMod, Int.zero_add, Int.add_zero, Int.mul_one, Int.cast_ofNat_Int, w0, w1, w2, ws, k1, k2, k3, k4, k5, k8, k10, p0, p1, ps])
    all_goals exact h
set_option maxHeartbeats 4000000 in
set_option maxRecDepth 100000 in
theorem c_accounts (hG : GM (S (nw S)) M) (Q : Option MV → Hp → Prop) : Wc 100 [.inr (0, 23)] S Q = Q (some (.inl 1)) S := by
  refine Wc_eq ?_ Q
  unfold Wc
  refine vg_sound (fun m pc => (m == 100 && pc == 6)) (fun m => m == 100) 20 _ _ _ _ _ _ ?_
  repeat' first | (with_reducible refine vT ?_ ?_; · omega) | (with_reducible refine vF ?_ ?_; · omega) | (with_reducible refine vI (fun _ => ?_) (fun _ => ?_)) | (simp (config := {maxSteps := 1000000}) only [f_L_accounts, wg_0, wg_s, wK_none, wK_N, wK_C, wK_R, wQ_some, wQ_none, stR, mZ, mC, stI, ini, mL, gI, gA, sI, sA, bi, gF, pF, kF, kT, kL, c2, mT, mR, f4, tsw, lsw, tgt, inR, Nat.reduceLT, Nat.reduceLeDiff, Nat.reduceEqDiff, Nat.reduceAdd, Nat.reduceSub, ↓reduceIte, Bool.false_eq_true, List.map_cons, List.map_nil, List.length_cons, List.length_nil, List.replicate, List.cons_append, List.nil_append, List.getElem?_cons_zero, List.getElem?_cons_succ, List.set, List.take_succ_cons, List.take_zero, List.drop_succ_cons, List.drop_zero, List.reverse_cons, List.reverse_nil, Int.reduceLE, Int.reduceLT, Int.reduceNeg, Int.reduceToNat, true_and, and_true, and_self, beq_iff_eq, Bool.and_eq_true, Bool.or_eq_true, or_false, false_or, or_true, true_or, and_false, false_and, hu_hr, hr_hr, hr_at, hr_nc, not_false_eq_true, Int.reduceEq, Int.pow_zero, Int.reducePow, Int.reduceMul, Int.reduceAdd, Int.reduceDiv, Int.reduceMod, Int.zero_add, Int.add_zero, Int.mul_one, Int.cast_ofNat_Int])
  refine a1_step hG (by omega) (a1_step hG (by omega) (a1_step hG (by omega) (a1_step hG (by omega) (a1_step hG (by omega) (a1_step hG (by omega) ?_)))))
  simp only [Int.zero_add, Int.reduceAdd]
  refine a1_end (a2_step hG (by omega) (a2_step hG (by omega) (a2_step hG (by omega) ?_)))
  simp only [Int.zero_add, Int.reduceAdd]
  exact a3_end hG ⟨rfl, rfl⟩
end ACC
