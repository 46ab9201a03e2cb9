/-! THE CLASS: messages come -/
def dsO (O : Of) (t : Int) : Of := oc (oc O 22 (up (O 22) (O 21 0) t)) 21 (up (up (O 21) 0 (O 21 0 + 1)) 1 (O 21 1 + 1))
def tmO (O : Of) (w t : Int) : Of := if fb (adO O t (5 + w).toNat) t (8 + w).toNat = 1 then (if fb (adO O t (5 + w).toNat) t 2 = 0 then dsO (adO (adO O t (5 + w).toNat) t 2) t else adO O t (5 + w).toNat) else adO O t (5 + w).toNat
set_option maxHeartbeats 4000000 in
set_option maxRecDepth 100000 in
theorem c_takeMark {S : Hp} {k : Nat} {O : Of} {w t : Int} (hB : FxB O) (hn : (0 ≤ O 21 0 ∧ O 21 0 ≤ 114) ∧ (fb (adO O t (5 + w).toNat) t (8 + w).toNat = 0 ∨ fb (adO O t (5 + w).toNat) t 2 = 1 ∨ O 21 0 < 114)) (hw : 0 ≤ w ∧ w < 3) (ht : 0 ≤ t ∧ t < 600) (Q : Option MV → Hp → Prop) : Wc 30 [.inr (k, 0), .inl w, .inl t] (ho S k O) Q = Q none (ho S k (tmO O w t)) := by
  refine Wc_eq ?_ Q
  unfold Wc
  have hp := pw3 hw
  have hB1 := adO_B (t := t) (i := (5 + w).toNat) hB (by omega)
  have q1 := fb_01 (adO O t (5 + w).toNat) t (8 + w).toNat
  have q2 := fb_01 (adO O t (5 + w).toNat) t 2
  have e0 : up (O 21) 0 (O 21 0 + 1) 1 = O 21 1 := up_ne (by decide)
  unfold tmO dsO
  refine vg_sound (fun _ _ => false) (fun m => m == 30 || m == 2) 200 _ _ _ _ _ _ ?_
  repeat' first | (with_reducible refine vT ?_ ?_; · omega) | (with_reducible refine vF ?_ ?_; · omega) | (with_reducible refine vI (fun _ => ?_) (fun _ => ?_)) | (simp (config := {maxSteps := 1000000}) (disch := (first | assumption | omega | (rw [hr_at]; assumption) | (rw [hr_at]; omega) | (repeat' first | assumption | decide | omega | refine FxB_nc ?_ ?_ | refine adO_B ?_ ?_ | refine rmO_B ?_ ?_))) only [f_X3_takeMark, f_X0_open, wg_0, wg_s, wK_none, wK_N, wK_C, wK_R, wQ_some, wQ_none, stR, mZ, mC, stI, ini, mL, gI, gA, sI, sA, bi, gF, pF, kF, kT, kL, c2, mT, mR, f4, tsw, lsw, tgt, inR, Nat.reduceLT, Nat.reduceLeDiff, Nat.reduceEqDiff, Nat.reduceAdd, Nat.reduceSub, ↓reduceIte, Bool.false_eq_true, List.map_cons, List.map_nil, List.length_cons, List.length_nil, List.replicate, List.cons_append, List.nil_append, List.getElem?_cons_zero, List.getElem?_cons_succ, List.set, List.take_succ_cons, List.take_zero, List.drop_succ_cons, List.drop_zero, List.reverse_cons, List.reverse_nil, Int.reduceLE, Int.reduceLT, Int.reduceNeg, Int.reduceToNat, true_and, and_true, and_self, beq_iff_eq, Bool.and_eq_true, Bool.or_eq_true, or_false, false_or, or_true, true_or, and_false, false_and, hu_ho, ho_at, oc_at, oc_nc, oc_oc, adO_nc, rmO_nc, not_false_eq_true, Int.reduceEq, Int.pow_zero, Int.reducePow, Int.reduceMul, Int.reduceAdd, Int.reduceDiv, Int.reduceMod, Int.zero_add, Int.add_zero, Int.mul_one, Int.cast_ofNat_Int, c_addM, c_add4, c_hasP, c_has4, e0])
  all_goals (repeat (first | rw [if_pos (by omega)] | rw [if_neg (by omega)]))
  all_goals (simp only [adO_nc, not_false_eq_true, Nat.reduceEqDiff])
def tqO (O : Of) (a t : Int) : Of := if fb O t 1 = 1 ∨ fb O t (5 + t % 3).toNat = 1 then snO O 2 a t (O 0 0 + O 1 1) else snO (adO O t 1) 3 a t (O 0 0 + O 1 1)
set_option maxHeartbeats 4000000 in
set_option maxRecDepth 100000 in
theorem c_takeQuestion {S : Hp} {k : Nat} {O : Of} {a t : Int} (hB : FxB O) (hn : 0 ≤ O 18 0 ∧ O 18 0 < 150) (ht : 0 ≤ t ∧ t < 600) (Q : Option MV → Hp → Prop) : Wc 31 [.inr (k, 0), .inl a, .inl t] (ho S k O) Q = Q none (ho S k (tqO O a t)) := by
  refine Wc_eq ?_ Q
  unfold Wc
  have hp := pw3 (w := t % 3) (by omega)
  have q1 := fb_01 O t 1
  have q2 := fb_01 O t (5 + t % 3).toNat
  have r1 := fun Q => c_send (S := S) (k := k) (O := adO O t 1) (kind := 3) (w := a) (t := t) (d := O 0 0 + O 1 1) (by rw [adO_nc (by decide)]; exact hn) Q
  unfold tqO
  refine vg_sound (fun _ _ => false) (fun m => m == 31) 200 _ _ _ _ _ _ ?_
  repeat' first | (with_reducible refine vT ?_ ?_; · omega) | (with_reducible refine vF ?_ ?_; · omega) | (with_reducible refine vI (fun _ => ?_) (fun _ => ?_)) | (simp (config := {maxSteps := 1000000}) (disch := (first | assumption | omega | (rw [hr_at]; assumption) | (rw [hr_at]; omega) | (repeat' first | assumption | decide | omega | refine FxB_nc ?_ ?_ | refine adO_B ?_ ?_ | refine rmO_B ?_ ?_))) only [f_X3_takeQuestion, wg_0, wg_s, wK_none, wK_N, wK_C, wK_R, wQ_some, wQ_none, stR, mZ, mC, stI, ini, mL, gI, gA, sI, sA, bi, gF, pF, kF, kT, kL, c2, mT, mR, f4, tsw, lsw, tgt, inR, Nat.reduceLT, Nat.reduceLeDiff, Nat.reduceEqDiff, Nat.reduceAdd, Nat.reduceSub, ↓reduceIte, Bool.false_eq_true, List.map_cons, List.map_nil, List.length_cons, List.length_nil, List.replicate, List.cons_append, List.nil_append, List.getElem?_cons_zero, List.getElem?_cons_succ, List.set, List.take_succ_cons, List.take_zero, List.drop_succ_cons, List.drop_zero, List.reverse_cons, List.reverse_nil, Int.reduceLE, Int.reduceLT, Int.reduceNeg, Int.reduceToNat, true_and, and_true, and_self, beq_iff_eq, Bool.and_eq_true, Bool.or_eq_true, or_false, false_or, or_true, true_or, and_false, false_and, hu_ho, ho_at, oc_at, oc_nc, oc_oc, adO_nc, rmO_nc, not_false_eq_true, Int.reduceEq, Int.pow_zero, Int.reducePow, Int.reduceMul, Int.reduceAdd, Int.reduceDiv, Int.reduceMod, Int.zero_add, Int.add_zero, Int.mul_one, Int.cast_ofNat_Int, c_add2, c_hasM, c_has2, c_send, r1])
  all_goals (repeat (first | rw [if_pos (by omega)] | rw [if_neg (by omega)]))
def awO (O : Of) (w r : Int) : Of := oc (oc O 16 (up (O 16) w (O 16 w + 1))) 17 (up (O 17) w r)
def frO (O : Of) (w : Int) : Of := oc O 12 (up (O 12) w (-5))
set_option maxHeartbeats 4000000 in
set_option maxRecDepth 100000 in
theorem frO_P {O : Of} {w t : Int} (h : PyP O t) : PyP (frO O w) t := by
  unfold PyP frO at *
  obtain ⟨h1, h2, h3, h4, h5⟩ := h
  refine ⟨FxB_nc (by decide) h1, ?_, ?_, ?_, ?_⟩
  · intro d hd1 hd2
    rw [oc_nc (by decide), oc_nc (by decide)]
    exact h2 d hd1 hd2
  · rw [oc_nc (by decide)]; exact h3
  · rw [oc_nc (by decide)]; exact h4
  · rw [oc_nc (by decide)]; exact h5
def tyO (O : Of) (w t : Int) : Of := if O 12 w = t then pyO (frO O w) w t else rmO O t 1
def tnO (O : Of) (w t : Int) : Of := if O 12 w = t then awO (frO O w) w 5 else O
set_option maxHeartbeats 4000000 in
set_option maxRecDepth 100000 in
theorem c_takeYes {S : Hp} {k : Nat} {O : Of} {w t : Int} (hP : PyP O t) (h12 : -5 ≤ O 12 w ∧ O 12 w < 600) (hw : 0 ≤ w ∧ w < 3) (ht : 0 ≤ t ∧ t < 600) (Q : Option MV → Hp → Prop) : Wc 32 [.inr (k, 0), .inl w, .inl t] (ho S k O) Q = Q none (ho S k (tyO O w t)) := by
  refine Wc_eq ?_ Q
  unfold Wc
  have hB := hP.1
  have r1 := fun Q => c_pay (S := S) (k := k) (frO_P (w := w) hP) hw ht Q
  have e1 : oc O 12 (up (O 12) w (-5)) = frO O w := rfl
  unfold tyO
  by_cases h : O 12 w = t
  · rw [if_pos h]
    refine vg_sound (fun _ _ => false) (fun m => m == 32) 60 _ _ _ _ _ _ ?_
    repeat' first | (with_reducible refine vT ?_ ?_; · omega) | (with_reducible refine vF ?_ ?_; · omega) | (with_reducible refine vI (fun _ => ?_) (fun _ => ?_)) | (simp (config := {maxSteps := 1000000}) (disch := (first | assumption | omega | (rw [hr_at]; assumption) | (rw [hr_at]; omega) | (repeat' first | assumption | decide | omega | refine FxB_nc ?_ ?_ | refine adO_B ?_ ?_ | refine rmO_B ?_ ?_))) only [f_X3_takeYes, wg_0, wg_s, wK_none, wK_N, wK_C, wK_R, wQ_some, wQ_none, stR, mZ, mC, stI, ini, mL, gI, gA, sI, sA, bi, gF, pF, kF, kT, kL, c2, mT, mR, f4, tsw, lsw, tgt, inR, Nat.reduceLT, Nat.reduceLeDiff, Nat.reduceEqDiff, Nat.reduceAdd, Nat.reduceSub, ↓reduceIte, Bool.false_eq_true, List.map_cons, List.map_nil, List.length_cons, List.length_nil, List.replicate, List.cons_append, List.nil_append, List.getElem?_cons_zero, List.getElem?_cons_succ, List.set, List.take_succ_cons, List.take_zero, List.drop_succ_cons, List.drop_zero, List.reverse_cons, List.reverse_nil, Int.reduceLE, Int.reduceLT, Int.reduceNeg, Int.reduceToNat, true_and, and_true, and_self, beq_iff_eq, Bool.and_eq_true, Bool.or_eq_true, or_false, false_or, or_true, true_or, and_false, false_and, hu_ho, ho_at, oc_at, oc_nc, oc_oc, adO_nc, rmO_nc, not_false_eq_true, Int.reduceEq, Int.pow_zero, Int.reducePow, Int.reduceMul, Int.reduceAdd, Int.reduceDiv, Int.reduceMod, Int.zero_add, Int.add_zero, Int.mul_one, Int.cast_ofNat_Int, r1, e1])
  · rw [if_neg h]
    refine vg_sound (fun _ _ => false) (fun m => m == 32) 60 _ _ _ _ _ _ ?_
    repeat' first | (with_reducible refine vT ?_ ?_; · omega) | (with_reducible refine vF ?_ ?_; · omega) | (with_reducible refine vI (fun _ => ?_) (fun _ => ?_)) | (simp (config := {maxSteps := 1000000}) (disch := (first | assumption | omega | (rw [hr_at]; assumption) | (rw [hr_at]; omega) | (repeat' first | assumption | decide | omega | refine FxB_nc ?_ ?_ | refine adO_B ?_ ?_ | refine rmO_B ?_ ?_))) only [f_X3_takeYes, wg_0, wg_s, wK_none, wK_N, wK_C, wK_R, wQ_some, wQ_none, stR, mZ, mC, stI, ini, mL, gI, gA, sI, sA, bi, gF, pF, kF, kT, kL, c2, mT, mR, f4, tsw, lsw, tgt, inR, Nat.reduceLT, Nat.reduceLeDiff, Nat.reduceEqDiff, Nat.reduceAdd, Nat.reduceSub, ↓reduceIte, Bool.false_eq_true, List.map_cons, List.map_nil, List.length_cons, List.length_nil, List.replicate, List.cons_append, List.nil_append, List.getElem?_cons_zero, List.getElem?_cons_succ, List.set, List.take_succ_cons, List.take_zero, List.drop_succ_cons, List.drop_zero, List.reverse_cons, List.reverse_nil, Int.reduceLE, Int.reduceLT, Int.reduceNeg, Int.reduceToNat, true_and, and_true, and_self, beq_iff_eq, Bool.and_eq_true, Bool.or_eq_true, or_false, false_or, or_true, true_or, and_false, false_and, hu_ho, ho_at, oc_at, oc_nc, oc_oc, adO_nc, rmO_nc, not_false_eq_true, Int.reduceEq, Int.pow_zero, Int.reducePow, Int.reduceMul, Int.reduceAdd, Int.reduceDiv, Int.reduceMod, Int.zero_add, Int.add_zero, Int.mul_one, Int.cast_ofNat_Int, c_remove2])
set_option maxHeartbeats 4000000 in
set_option maxRecDepth 100000 in
theorem c_takeNo {S : Hp} {k : Nat} {O : Of} {w t : Int} (h12 : -5 ≤ O 12 w ∧ O 12 w < 600) (hw : 0 ≤ w ∧ w < 3) (ht : 0 ≤ t ∧ t < 600) (Q : Option MV → Hp → Prop) : Wc 33 [.inr (k, 0), .inl w, .inl t] (ho S k O) Q = Q none (ho S k (tnO O w t)) := by
  refine Wc_eq ?_ Q
  unfold Wc
  have e1 : oc O 12 (up (O 12) w (-5)) = frO O w := rfl
  have e2 : frO O w 16 = O 16 := oc_nc (by decide)
  have e3 : frO O w 17 = O 17 := oc_nc (by decide)
  unfold tnO awO
  by_cases h : O 12 w = t
  · rw [if_pos h, e2, e3]
    refine vg_sound (fun _ _ => false) (fun m => m == 33 || m == 61) 60 _ _ _ _ _ _ ?_
    repeat' first | (with_reducible refine vT ?_ ?_; · omega) | (with_reducible refine vF ?_ ?_; · omega) | (with_reducible refine vI (fun _ => ?_) (fun _ => ?_)) | (simp (config := {maxSteps := 1000000}) (disch := (first | assumption | omega | (rw [hr_at]; assumption) | (rw [hr_at]; omega) | (repeat' first | assumption | decide | omega | refine FxB_nc ?_ ?_ | refine adO_B ?_ ?_ | refine rmO_B ?_ ?_))) only [f_X3_takeNo, f_X6_sendAway, wg_0, wg_s, wK_none, wK_N, wK_C, wK_R, wQ_some, wQ_none, stR, mZ, mC, stI, ini, mL, gI, gA, sI, sA, bi, gF, pF, kF, kT, kL, c2, mT, mR, f4, tsw, lsw, tgt, inR, Nat.reduceLT, Nat.reduceLeDiff, Nat.reduceEqDiff, Nat.reduceAdd, Nat.reduceSub, ↓reduceIte, Bool.false_eq_true, List.map_cons, List.map_nil, List.length_cons, List.length_nil, List.replicate, List.cons_append, List.nil_append, List.getElem?_cons_zero, List.getElem?_cons_succ, List.set, List.take_succ_cons, List.take_zero, List.drop_succ_cons, List.drop_zero, List.reverse_cons, List.reverse_nil, Int.reduceLE, Int.reduceLT, Int.reduceNeg, Int.reduceToNat, true_and, and_true, and_self, beq_iff_eq, Bool.and_eq_true, Bool.or_eq_true, or_false, false_or, or_true, true_or, and_false, false_and, hu_ho, ho_at, oc_at, oc_nc, oc_oc, adO_nc, rmO_nc, not_false_eq_true, Int.reduceEq, Int.pow_zero, Int.reducePow, Int.reduceMul, Int.reduceAdd, Int.reduceDiv, Int.reduceMod, Int.zero_add, Int.add_zero, Int.mul_one, Int.cast_ofNat_Int, e1, e2, e3])
  · rw [if_neg h]
    refine vg_sound (fun _ _ => false) (fun m => m == 33) 60 _ _ _ _ _ _ ?_
    repeat' first | (with_reducible refine vT ?_ ?_; · omega) | (with_reducible refine vF ?_ ?_; · omega) | (with_reducible refine vI (fun _ => ?_) (fun _ => ?_)) | (simp (config := {maxSteps := 1000000}) (disch := (first | assumption | omega | (rw [hr_at]; assumption) | (rw [hr_at]; omega) | (repeat' first | assumption | decide | omega | refine FxB_nc ?_ ?_ | refine adO_B ?_ ?_ | refine rmO_B ?_ ?_))) only [f_X3_takeNo, wg_0, wg_s, wK_none, wK_N, wK_C, wK_R, wQ_some, wQ_none, stR, mZ, mC, stI, ini, mL, gI, gA, sI, sA, bi, gF, pF, kF, kT, kL, c2, mT, mR, f4, tsw, lsw, tgt, inR, Nat.reduceLT, Nat.reduceLeDiff, Nat.reduceEqDiff, Nat.reduceAdd, Nat.reduceSub, ↓reduceIte, Bool.false_eq_true, List.map_cons, List.map_nil, List.length_cons, List.length_nil, List.replicate, List.cons_append, List.nil_append, List.getElem?_cons_zero, List.getElem?_cons_succ, List.set, List.take_succ_cons, List.take_zero, List.drop_succ_cons, List.drop_zero, List.reverse_cons, List.reverse_nil, Int.reduceLE, Int.reduceLT, Int.reduceNeg, Int.reduceToNat, true_and, and_true, and_self, beq_iff_eq, Bool.and_eq_true, Bool.or_eq_true, or_false, false_or, or_true, true_or, and_false, false_and, hu_ho, ho_at, oc_at, oc_nc, oc_oc, adO_nc, rmO_nc, not_false_eq_true, Int.reduceEq, Int.pow_zero, Int.reducePow, Int.reduceMul, Int.reduceAdd, Int.reduceDiv, Int.reduceMod, Int.zero_add, Int.add_zero, Int.mul_one, Int.cast_ofNat_Int])
