/-! THE LAW: tickets -/
section TIC
variable {S : Hp} {M : Int → Int}
set_option maxHeartbeats 4000000 in
set_option maxRecDepth 100000 in
theorem q_ticket (hG : GM (S (nw S)) M) {z a : Int} (hz : 0 ≤ z ∧ z < 600) (ha : 0 ≤ a ∧ a < 9) (Q : Option MV → Hp → Prop) : Wc 77 [.inr (0, 23), .inl z, .inl a] S Q = Q (some (.inl (ttV (S (nw S)) z a))) S := by
  rw [c_ticketOf (S := S) (t := z) (a := a) hG.1.1.1.1.2.1 (RD_Wn hG.1.1.1.2.1) (RR_Rw hG.1.1.1) (by unfold tdR; omega) (by unfold tdR; omega) Q, if_pos hz]
set_option maxHeartbeats 4000000 in
set_option maxRecDepth 100000 in
theorem q_why (hG : GM (S (nw S)) M) {z : Int} (hz : 0 ≤ z ∧ z < 600) (Q : Option MV → Hp → Prop) : Wc 82 [.inr (0, 23), .inl 0, .inl z] S Q = Q (some (.inl (rsO (S (nw S)) 0 z))) S := by
  rw [c_why (S := S) (w := 0) (t := z) hG.1.1.1.1.2.1 (RD_Wn hG.1.1.1.2.1) (RD_Wg hG.1.1.1.2.1) (by have q := RR_set3 hG.1.1.1 0 (by omega) (by omega); have q2 := hG.1.1.1.2.2.2.2.2.2.1.2.2.2.2.1; rw [q.1]; exact q2) (by unfold tdR; omega) (by unfold tdR; omega) Q, if_pos ⟨by omega, hz⟩]
set_option maxHeartbeats 4000000 in
set_option maxRecDepth 100000 in
theorem tk_step (hG : GM (S (nw S)) M) {from_ z : Int} {y3 y4 y5 y6 : Option MV} {Q : Option MV → Hp → Prop} (hf : from_ = 0 ∨ from_ = 100) (hz : from_ ≤ z ∧ z < from_ + 30) (h : ∀ y3 y4 y5 y6 : Option MV, Wp 101 2 [some (.inr (0, 23)), some (.inl from_), some (.inl (z + 1)), y3, y4, y5, y6] [] S Q) : Wp 101 2 [some (.inr (0, 23)), some (.inl from_), some (.inl z), y3, y4, y5, y6] [] S Q := by
  have hz6 : 0 ≤ z ∧ z < 600 := by omega
  have rt := fun (a : Int) (ha : 0 ≤ a ∧ a < 9) (Q : Option MV → Hp → Prop) => q_ticket hG hz6 ha Q
  have r0 : ∀ Q : Option MV → Hp → Prop, Wc 77 [.inr (0, 23), .inl z, .inl 0] S Q = Q (some (.inl (fb (S (nw S)) z 0))) S := fun Q => rt 0 (by omega) Q
  have r1 : ∀ Q : Option MV → Hp → Prop, Wc 77 [.inr (0, 23), .inl z, .inl 1] S Q = Q (some (.inl (S (nw S) 3 z / 8 % 4))) S := fun Q => rt 1 (by omega) Q
  have r2 : ∀ Q : Option MV → Hp → Prop, Wc 77 [.inr (0, 23), .inl z, .inl 2] S Q = Q (some (.inl (pzO (S (nw S)) z))) S := fun Q => rt 2 (by omega) Q
  have r3 : ∀ Q : Option MV → Hp → Prop, Wc 77 [.inr (0, 23), .inl z, .inl 3] S Q = Q (some (.inl (bt3 (S (nw S) 3 z / 256 % 8)))) S := fun Q => rt 3 (by omega) Q
  have r4 : ∀ Q : Option MV → Hp → Prop, Wc 77 [.inr (0, 23), .inl z, .inl 4] S Q = Q (some (.inl (bt3 (S (nw S) 3 z / 2048 % 8)))) S := fun Q => rt 4 (by omega) Q
  have r5 : ∀ Q : Option MV → Hp → Prop, Wc 77 [.inr (0, 23), .inl z, .inl 5] S Q = Q (some (.inl (S (nw S) 3 z / 32 % 8))) S := fun Q => rt 5 (by omega) Q
  have r8 : ∀ Q : Option MV → Hp → Prop, Wc 77 [.inr (0, 23), .inl z, .inl 8] S Q = Q (some (.inl (fb (S (nw S)) z 2))) S := fun Q => rt 8 (by omega) Q
  clear rt
  have rw_ := fun Q => q_why hG hz6 Q
  have hT := TkOk_of hG.1.1.1 hG.2.1.2.2 hz6
  have hpz : 0 ≤ pzO (S (nw S)) z ∧ pzO (S (nw S)) z ≤ 400 := prO_b (c := S (nw S) 3 z / 8 % 4) (RD_Wn hG.1.1.1.2.1) (show 0 ≤ z / 100 ∧ z / 100 < 6 by omega) (by omega)
  unfold TkOk at hT
  have hrb := rsO_b (S (nw S)) 0 z
  have f0 := fb_01 (S (nw S)) z 0
  have f2 := fb_01 (S (nw S)) z 2
  have hm : 0 ≤ S (nw S) 3 z / 32 % 8 ∧ S (nw S) 3 z / 32 % 8 < 8 := by omega
  have bp : 0 ≤ bt3 (S (nw S) 3 z / 256 % 8) ∧ bt3 (S (nw S) 3 z / 256 % 8) ≤ 3 := by unfold bt3; omega
  have bc : 0 ≤ bt3 (S (nw S) 3 z / 2048 % 8) ∧ bt3 (S (nw S) 3 z / 2048 % 8) ≤ 3 := by unfold bt3; omega
  have hcl : 0 ≤ S (nw S) 3 z / 8 % 4 ∧ S (nw S) 3 z / 8 % 4 < 4 := by omega
  generalize S (nw S) 3 z / 8 % 4 = cl at *
  generalize bt3 (S (nw S) 3 z / 256 % 8) = pa at *
  generalize bt3 (S (nw S) 3 z / 2048 % 8) = ca at *
  generalize S (nw S) 3 z / 32 % 8 = mk at *
  generalize fb (S (nw S)) z 0 = g0 at *
  generalize fb (S (nw S)) z 2 = g2 at *
  generalize pzO (S (nw S)) z = pz at *
  generalize rsO (S (nw S)) 0 z = rs at *
  obtain ⟨t1, t2, t3, t4, t5⟩ := hT
  have a1 := and1 (z := mk) (by omega) (by omega)
  have a2 := and1 (z := mk / 2) (by omega) (by omega)
  have a3 := and1 (z := mk / 4) (by omega) (by omega)
  have p1 : pa = 0 ∨ 0 < pa := by omega
  have hfz : inR (from_ + 30) ∧ inR z := by omega
  by_cases u1 : 0 < pa
  · have t22 := t2 u1
    by_cases u2 : mk % 2 = 1
    · have t55 := t5 t22.2 u2
      by_cases u3 : g0 = 0
      · have t33 := t3 u3
        refine vg_cut (fun m pc => (m == 101 && pc == 2)) (fun m => m == 101) 400 _ _ _ _ _ _ ?_
        repeat' first | (with_reducible refine vT ?_ ?_; · omega) | (with_reducible refine vF ?_ ?_; · omega) | (with_reducible refine vI (fun _ => ?_) (fun _ => ?_)) | (simp (config := {maxSteps := 1000000}) (disch := (first | assumption | omega | (rw [hr_at]; assumption) | (rw [hr_at]; omega))) only [f_L_tickets, wg_0, wg_s, wK_none, wK_N, wK_C, wK_R, wQ_some, wQ_none, stR, mZ, mC, stI, ini, mL, gI, gA, sI, sA, bi, gF, pF, kF, kT, kL, c2, mT, mR, f4, tsw, lsw, tgt, inR, Nat.reduceLT, Nat.reduceLeDiff, Nat.reduceEqDiff, Nat.reduceAdd, Nat.reduceSub, ↓reduceIte, Bool.false_eq_true, List.map_cons, List.map_nil, List.length_cons, List.length_nil, List.replicate, List.cons_append, List.nil_append, List.getElem?_cons_zero, List.getElem?_cons_succ, List.set, List.take_succ_cons, List.take_zero, List.drop_succ_cons, List.drop_zero, List.reverse_cons, List.reverse_nil, Int.reduceLE, Int.reduceLT, Int.reduceNeg, Int.reduceToNat, true_and, and_true, and_self, beq_iff_eq, Bool.and_eq_true, Bool.or_eq_true, or_false, false_or, or_true, true_or, and_false, false_and, hu_hr, hr_hr, hr_at, hr_nc, not_false_eq_true, Int.reduceEq, Int.pow_zero, Int.reducePow, Int.reduceMul, Int.reduceAdd, Int.reduceDiv, Int.reduceMod, Int.zero_add, Int.add_zero, Int.mul_one, Int.cast_ofNat_Int, r0, r1, r2, r3, r4, r5, r8, rw_, a1, a2, a3])
        all_goals exact h _ _ _ _
      · refine vg_cut (fun m pc => (m == 101 && pc == 2)) (fun m => m == 101) 400 _ _ _ _ _ _ ?_
        repeat' first | (with_reducible refine vT ?_ ?_; · omega) | (with_reducible refine vF ?_ ?_; · omega) | (with_reducible refine vI (fun _ => ?_) (fun _ => ?_)) | (simp (config := {maxSteps := 1000000}) (disch := (first | assumption | omega | (rw [hr_at]; assumption) | (rw [hr_at]; omega))) only [f_L_tickets, wg_0, wg_s, wK_none, wK_N, wK_C, wK_R, wQ_some, wQ_none, stR, mZ, mC, stI, ini, mL, gI, gA, sI, sA, bi, gF, pF, kF, kT, kL, c2, mT, mR, f4, tsw, lsw, tgt, inR, Nat.reduceLT, Nat.reduceLeDiff, Nat.reduceEqDiff, Nat.reduceAdd, Nat.reduceSub, ↓reduceIte, Bool.false_eq_true, List.map_cons, List.map_nil, List.length_cons, List.length_nil, List.replicate, List.cons_append, List.nil_append, List.getElem?_cons_zero, List.getElem?_cons_succ, List.set, List.take_succ_cons, List.take_zero, List.drop_succ_cons, List.drop_zero, List.reverse_cons, List.reverse_nil, Int.reduceLE, Int.reduceLT, Int.reduceNeg, Int.reduceToNat, true_and, and_true, and_self, beq_iff_eq, Bool.and_eq_true, Bool.or_eq_true, or_false, false_or, or_true, true_or, and_false, false_and, hu_hr, hr_hr, hr_at, hr_nc, not_false_eq_true, Int.reduceEq, Int.pow_zero, Int.reducePow, Int.reduceMul, Int.reduceAdd, Int.reduceDiv, Int.reduceMod, Int.zero_add, Int.add_zero, Int.mul_one, Int.cast_ofNat_Int, r0, r1, r2, r3, r4, r5, r8, rw_, a1, a2, a3])
        all_goals exact h _ _ _ _
    · by_cases u3 : g0 = 0
      · have t33 := t3 u3
        refine vg_cut (fun m pc => (m == 101 && pc == 2)) (fun m => m == 101) 400 _ _ _ _ _ _ ?_
        repeat' first | (with_reducible refine vT ?_ ?_; · omega) | (with_reducible refine vF ?_ ?_; · omega) | (with_reducible refine vI (fun _ => ?_) (fun _ => ?_)) | (simp (config := {maxSteps := 1000000}) (disch := (first | assumption | omega | (rw [hr_at]; assumption) | (rw [hr_at]; omega))) only [f_L_tickets, wg_0, wg_s, wK_none, wK_N, wK_C, wK_R, wQ_some, wQ_none, stR, mZ, mC, stI, ini, mL, gI, gA, sI, sA, bi, gF, pF, kF, kT, kL, c2, mT, mR, f4, tsw, lsw, tgt, inR, Nat.reduceLT, Nat.reduceLeDiff, Nat.reduceEqDiff, Nat.reduceAdd, Nat.reduceSub, ↓reduceIte, Bool.false_eq_true, List.map_cons, List.map_nil, List.length_cons, List.length_nil, List.replicate, List.cons_append, List.nil_append, List.getElem?_cons_zero, List.getElem?_cons_succ, List.set, List.take_succ_cons, List.take_zero, List.drop_succ_cons, List.drop_zero, List.reverse_cons, List.reverse_nil, Int.reduceLE, Int.reduceLT, Int.reduceNeg, Int.reduceToNat, true_and, and_true, and_self, beq_iff_eq, Bool.and_eq_true, Bool.or_eq_true, or_false, false_or, or_true, true_or, and_false, false_and, hu_hr, hr_hr, hr_at, hr_nc, not_false_eq_true, Int.reduceEq, Int.pow_zero, Int.reducePow, Int.reduceMul, Int.reduceAdd, Int.reduceDiv, Int.reduceMod, Int.zero_add, Int.add_zero, Int.mul_one, Int.cast_ofNat_Int, r0, r1, r2, r3, r4, r5, r8, rw_, a1, a2, a3])
        all_goals exact h _ _ _ _
      · refine vg_cut (fun m pc => (m == 101 && pc == 2)) (fun m => m == 101) 400 _ _ _ _ _ _ ?_
        repeat' first | (with_reducible refine vT ?_ ?_; · omega) | (with_reducible refine vF ?_ ?_; · omega) | (with_reducible refine vI (fun _ => ?_) (fun _ => ?_)) | (simp (config := {maxSteps := 1000000}) (disch := (first | assumption | omega | (rw [hr_at]; assumption) | (rw [hr_at]; omega))) only [f_L_tickets, wg_0, wg_s, wK_none, wK_N, wK_C, wK_R, wQ_some, wQ_none, stR, mZ, mC, stI, ini, mL, gI, gA, sI, sA, bi, gF, pF, kF, kT, kL, c2, mT, mR, f4, tsw, lsw, tgt, inR, Nat.reduceLT, Nat.reduceLeDiff, Nat.reduceEqDiff, Nat.reduceAdd, Nat.reduceSub, ↓reduceIte, Bool.false_eq_true, List.map_cons, List.map_nil, List.length_cons, List.length_nil, List.replicate, List.cons_append, List.nil_append, List.getElem?_cons_zero, List.getElem?_cons_succ, List.set, List.take_succ_cons, List.take_zero, List.drop_succ_cons, List.drop_zero, List.reverse_cons, List.reverse_nil, Int.reduceLE, Int.reduceLT, Int.reduceNeg, Int.reduceToNat, true_and, and_true, and_self, beq_iff_eq, Bool.and_eq_true, Bool.or_eq_true, or_false, false_or, or_true, true_or, and_false, false_and, hu_hr, hr_hr, hr_at, hr_nc, not_false_eq_true, Int.reduceEq, Int.pow_zero, Int.reducePow, Int.reduceMul, Int.reduceAdd, Int.reduceDiv, Int.reduceMod, Int.zero_add, Int.add_zero, Int.mul_one, Int.cast_ofNat_Int, r0, r1, r2, r3, r4, r5, r8, rw_, a1, a2, a3])
        all_goals exact h _ _ _ _
  · have u0 : pa = 0 := by omega
    have g20 : ¬ g2 = 1 := fun q => u1 (t4 q)
    by_cases u2 : 0 < pz ∧ mk % 2 = 1
    · have t55 := t5 u2.1 u2.2
      by_cases u3 : g0 = 0
      · have t33 := t3 u3
        refine vg_cut (fun m pc => (m == 101 && pc == 2)) (fun m => m == 101) 400 _ _ _ _ _ _ ?_
        repeat' first | (with_reducible refine vT ?_ ?_; · omega) | (with_reducible refine vF ?_ ?_; · omega) | (with_reducible refine vI (fun _ => ?_) (fun _ => ?_)) | (simp (config := {maxSteps := 1000000}) (disch := (first | assumption | omega | (rw [hr_at]; assumption) | (rw [hr_at]; omega))) only [f_L_tickets, wg_0, wg_s, wK_none, wK_N, wK_C, wK_R, wQ_some, wQ_none, stR, mZ, mC, stI, ini, mL, gI, gA, sI, sA, bi, gF, pF, kF, kT, kL, c2, mT, mR, f4, tsw, lsw, tgt, inR, Nat.reduceLT, Nat.reduceLeDiff, Nat.reduceEqDiff, Nat.reduceAdd, Nat.reduceSub, ↓reduceIte, Bool.false_eq_true, List.map_cons, List.map_nil, List.length_cons, List.length_nil, List.replicate, List.cons_append, List.nil_append, List.getElem?_cons_zero, List.getElem?_cons_succ, List.set, List.take_succ_cons, List.take_zero, List.drop_succ_cons, List.drop_zero, List.reverse_cons, List.reverse_nil, Int.reduceLE, Int.reduceLT, Int.reduceNeg, Int.reduceToNat, true_and, and_true, and_self, beq_iff_eq, Bool.and_eq_true, Bool.or_eq_true, or_false, false_or, or_true, true_or, and_false, false_and, hu_hr, hr_hr, hr_at, hr_nc, not_false_eq_true, Int.reduceEq, Int.pow_zero, Int.reducePow, Int.reduceMul, Int.reduceAdd, Int.reduceDiv, Int.reduceMod, Int.zero_add, Int.add_zero, Int.mul_one, Int.cast_ofNat_Int, r0, r1, r2, r3, r4, r5, r8, rw_, a1, a2, a3])
        all_goals exact h _ _ _ _
      · refine vg_cut (fun m pc => (m == 101 && pc == 2)) (fun m => m == 101) 400 _ _ _ _ _ _ ?_
        repeat' first | (with_reducible refine vT ?_ ?_; · omega) | (with_reducible refine vF ?_ ?_; · omega) | (with_reducible refine vI (fun _ => ?_) (fun _ => ?_)) | (simp (config := {maxSteps := 1000000}) (disch := (first | assumption | omega | (rw [hr_at]; assumption) | (rw [hr_at]; omega))) only [f_L_tickets, wg_0, wg_s, wK_none, wK_N, wK_C, wK_R, wQ_some, wQ_none, stR, mZ, mC, stI, ini, mL, gI, gA, sI, sA, bi, gF, pF, kF, kT, kL, c2, mT, mR, f4, tsw, lsw, tgt, inR, Nat.reduceLT, Nat.reduceLeDiff, Nat.reduceEqDiff, Nat.reduceAdd, Nat.reduceSub, ↓reduceIte, Bool.false_eq_true, List.map_cons, List.map_nil, List.length_cons, List.length_nil, List.replicate, List.cons_append, List.nil_append, List.getElem?_cons_zero, List.getElem?_cons_succ, List.set, List.take_succ_cons, List.take_zero, List.drop_succ_cons, List.drop_zero, List.reverse_cons, List.reverse_nil, Int.reduceLE, Int.reduceLT, Int.reduceNeg, Int.reduceToNat, true_and, and_true, and_self, beq_iff_eq, Bool.and_eq_true, Bool.or_eq_true, or_false, false_or, or_true, true_or, and_false, false_and, hu_hr, hr_hr, hr_at, hr_nc, not_false_eq_true, Int.reduceEq, Int.pow_zero, Int.reducePow, Int.reduceMul, Int.reduceAdd, Int.reduceDiv, Int.reduceMod, Int.zero_add, Int.add_zero, Int.mul_one, Int.cast_ofNat_Int, r0, r1, r2, r3, r4, r5, r8, rw_, a1, a2, a3])
        all_goals exact h _ _ _ _
    · by_cases u3 : g0 = 0
      · have t33 := t3 u3
        refine vg_cut (fun m pc => (m == 101 && pc == 2)) (fun m => m == 101) 400 _ _ _ _ _ _ ?_
        repeat' first | (with_reducible refine vT ?_ ?_; · omega) | (with_reducible refine vF ?_ ?_; · omega) | (with_reducible refine vI (fun _ => ?_) (fun _ => ?_)) | (simp (config := {maxSteps := 1000000}) (disch := (first | assumption | omega | (rw [hr_at]; assumption) | (rw [hr_at]; omega))) only [f_L_tickets, wg_0, wg_s, wK_none, wK_N, wK_C, wK_R, wQ_some, wQ_none, stR, mZ, mC, stI, ini, mL, gI, gA, sI, sA, bi, gF, pF, kF, kT, kL, c2, mT, mR, f4, tsw, lsw, tgt, inR, Nat.reduceLT, Nat.reduceLeDiff, Nat.reduceEqDiff, Nat.reduceAdd, Nat.reduceSub, ↓reduceIte, Bool.false_eq_true, List.map_cons, List.map_nil, List.length_cons, List.length_nil, List.replicate, List.cons_append, List.nil_append, List.getElem?_cons_zero, List.getElem?_cons_succ, List.set, List.take_succ_cons, List.take_zero, List.drop_succ_cons, List.drop_zero, List.reverse_cons, List.reverse_nil, Int.reduceLE, Int.reduceLT, Int.reduceNeg, Int.reduceToNat, true_and, and_true, and_self, beq_iff_eq, Bool.and_eq_true, Bool.or_eq_true, or_false, false_or, or_true, true_or, and_false, false_and, hu_hr, hr_hr, hr_at, hr_nc, not_false_eq_true, Int.reduceEq, Int.pow_zero, Int.reducePow, Int.reduceMul, Int.reduceAdd, Int.reduceDiv, Int.reduceMod, Int.zero_add, Int.add_zero, Int.mul_one, Int.cast_ofNat_Int, r0, r1, r2, r3, r4, r5, r8, rw_, a1, a2, a3])
        all_goals exact h _ _ _ _
      · refine vg_cut (fun m pc => (m == 101 && pc == 2)) (fun m => m == 101) 400 _ _ _ _ _ _ ?_
        repeat' first | (with_reducible refine vT ?_ ?_; · omega) | (with_reducible refine vF ?_ ?_; · omega) | (with_reducible refine vI (fun _ => ?_) (fun _ => ?_)) | (simp (config := {maxSteps := 1000000}) (disch := (first | assumption | omega | (rw [hr_at]; assumption) | (rw [hr_at]; omega))) only [f_L_tickets, wg_0, wg_s, wK_none, wK_N, wK_C, wK_R, wQ_some, wQ_none, stR, mZ, mC, stI, ini, mL, gI, gA, sI, sA, bi, gF, pF, kF, kT, kL, c2, mT, mR, f4, tsw, lsw, tgt, inR, Nat.reduceLT, Nat.reduceLeDiff, Nat.reduceEqDiff, Nat.reduceAdd, Nat.reduceSub, ↓reduceIte, Bool.false_eq_true, List.map_cons, List.map_nil, List.length_cons, List.length_nil, List.replicate, List.cons_append, List.nil_append, List.getElem?_cons_zero, List.getElem?_cons_succ, List.set, List.take_succ_cons, List.take_zero, List.drop_succ_cons, List.drop_zero, List.reverse_cons, List.reverse_nil, Int.reduceLE, Int.reduceLT, Int.reduceNeg, Int.reduceToNat, true_and, and_true, and_self, beq_iff_eq, Bool.and_eq_true, Bool.or_eq_true, or_false, false_or, or_true, true_or, and_false, false_and, hu_hr, hr_hr, hr_at, hr_nc, not_false_eq_true, Int.reduceEq, Int.pow_zero, Int.reducePow, Int.reduceMul, Int.reduceAdd, Int.reduceDiv, Int.reduceMod, Int.zero_add, Int.add_zero, Int.mul_one, Int.cast_ofNat_Int, r0, r1, r2, r3, r4, r5, r8, rw_, a1, a2, a3])
        all_goals exact h _ _ _ _
set_option maxHeartbeats 4000000 in
set_option maxRecDepth 100000 in
theorem tk_end {from_ z : Int} {y3 y4 y5 y6 : Option MV} {Q : Option MV → Hp → Prop} (hf : from_ = 0 ∨ from_ = 100) (hz : z = from_ + 30) (h : Q (some (.inl 1)) S) : Wp 101 2 [some (.inr (0, 23)), some (.inl from_), some (.inl z), y3, y4, y5, y6] [] S Q := by
  refine vg_cut (fun m pc => (m == 101 && pc == 2)) (fun m => m == 101) 40 _ _ _ _ _ _ ?_
  repeat' first | (with_reducible refine vT ?_ ?_; · omega) | (with_reducible refine vF ?_ ?_; · omega) | (with_reducible refine vI (fun _ => ?_) (fun _ => ?_)) | (simp (config := {maxSteps := 1000000}) (disch := (first | assumption | omega | (rw [hr_at]; assumption) | (rw [hr_at]; omega))) only [f_L_tickets, wg_0, wg_s, wK_none, wK_N, wK_C, wK_R, wQ_some, wQ_none, stR, mZ, mC, stI, ini, mL, gI, gA, sI, sA, bi, gF, pF, kF, kT, kL, c2, mT, mR, f4, tsw, lsw, tgt, inR, Nat.reduceLT, Nat.reduceLeDiff, Nat.reduceEqDiff, Nat.reduceAdd, Nat.reduceSub, ↓reduceIte, Bool.false_eq_true, List.map_cons, List.map_nil, List.length_cons, List.length_nil, List.replicate, List.cons_append, List.nil_append, List.getElem?_cons_zero, List.getElem?_cons_succ, List.set, List.take_succ_cons, List.take_zero, List.drop_succ_cons, List.drop_zero, List.reverse_cons, List.reverse_nil, Int.reduceLE, Int.reduceLT, Int.reduceNeg, Int.reduceToNat, true_and, and_true, and_self, beq_iff_eq, Bool.and_eq_true, Bool.or_eq_true, or_false, false_or, or_true, true_or, and_false, false_and, hu_hr, hr_hr, hr_at, hr_nc, not_false_eq_true, Int.reduceEq, Int.pow_zero, Int.reducePow, Int.reduceMul, Int.reduceAdd, Int.reduceDiv, Int.reduceMod, Int.zero_add, Int.add_zero, Int.mul_one, Int.cast_ofNat_Int])
  exact h
set_option maxHeartbeats 4000000 in
set_option maxRecDepth 100000 in
theorem c_tickets (hG : GM (S (nw S)) M) {from_ : Int} (hf : from_ = 0 ∨ from_ = 100) (Q : Option MV → Hp → Prop) : Wc 101 [.inr (0, 23), .inl from_] S Q = Q (some (.inl 1)) S := by
  refine Wc_eq ?_ Q
  unfold Wc
  refine vg_sound (fun m pc => (m == 101 && pc == 2)) (fun m => m == 101) 20 _ _ _ _ _ _ ?_
  repeat' first | (with_reducible refine vT ?_ ?_; · omega) | (with_reducible refine vF ?_ ?_; · omega) | (with_reducible refine vI (fun _ => ?_) (fun _ => ?_)) | (simp (config := {maxSteps := 1000000}) only [f_L_tickets, wg_0, wg_s, wK_none, wK_N, wK_C, wK_R, wQ_some, wQ_none, stR, mZ, mC, stI, ini, mL, gI, gA, sI, sA, bi, gF, pF, kF, kT, kL, c2, mT, mR, f4, tsw, lsw, tgt, inR, Nat.reduceLT, Nat.reduceLeDiff, Nat.reduceEqDiff, Nat.reduceAdd, Nat.reduceSub, ↓reduceIte, Bool.false_eq_true, List.map_cons, List.map_nil, List.length_cons, List.length_nil, List.replicate, List.cons_append, List.nil_append, List.getElem?_cons_zero, List.getElem?_cons_succ, List.set, List.take_succ_cons, List.take_zero, List.drop_succ_cons, List.drop_zero, List.reverse_cons, List.reverse_nil, Int.reduceLE, Int.reduceLT, Int.reduceNeg, Int.reduceToNat, true_and, and_true, and_self, beq_iff_eq, Bool.and_eq_true, Bool.or_eq_true, or_false, false_or, or_true, true_or, and_false, false_and, hu_hr, hr_hr, hr_at, hr_nc, not_false_eq_true, Int.reduceEq, Int.pow_zero, Int.reducePow, Int.reduceMul, Int.reduceAdd, Int.reduceDiv, Int.reduceMod, Int.zero_add, Int.add_zero, Int.mul_one, Int.cast_ofNat_Int])
  have key : ∀ d j : Nat, j + d = 30 → ∀ y3 y4 y5 y6 : Option MV, Wp 101 2 [some (.inr (0, 23)), some (.inl from_), some (.inl (from_ + (j : Int))), y3, y4, y5, y6] [] S (fun r T => r = some (.inl 1) ∧ T = S) := by
    intro d
    induction d with
    | zero =>
      intro j hj y3 y4 y5 y6
      exact tk_end hf (by omega) ⟨rfl, rfl⟩
    | succ d ih =>
      intro j hj y3 y4 y5 y6
      refine tk_step hG hf (by omega) (fun y3 y4 y5 y6 => ?_)
      have q := ih (j + 1) (by omega) y3 y4 y5 y6
      rw [Int.natCast_add, ← Int.add_assoc] at q
      exact q
  have g := key 30 0 (by omega) none none none none
  have e : from_ + ((0 : Nat) : Int) = from_ := by omega
  rw [e] at g
  exact g
end TIC
