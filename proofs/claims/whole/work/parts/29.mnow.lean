/-! THE REFERENCE's row: a sale, a draw, who comes -/
def slR (M : Int → Int) (t : Int) : Int := if 0 ≤ t ∧ t < 600 then (if M (53 + 2 * (t / 100)) = 1 then -4 else if qb M t 0 = 1 then -5 else 10 * sdC (mkM M t 0 1) (t / 100)) else -1
def slM (M : Int → Int) (t : Int) : Int → Int := if 0 ≤ t ∧ t < 600 then (if M (53 + 2 * (t / 100)) = 1 then M else if qb M t 0 = 1 then M else mkM M t 0 1) else M
set_option maxHeartbeats 4000000 in
set_option maxRecDepth 100000 in
theorem m_sellNow {S : Hp} {t : Int} (hF : FlB (S 0 31)) (hW : DrW (S 0 31)) (ht : -2147483648 ≤ t ∧ t < 2147483648) (Q : Option MV → Hp → Prop) : Wc 150 [.inr (0, 30), .inl t] S Q = Q (some (.inl (slR (S 0 31) t))) (hr S 0 31 (slM (S 0 31) t)) := by
  refine Wc_eq ?_ Q
  unfold Wc
  by_cases h : 0 ≤ t ∧ t < 600
  · have hw := hW (t / 100) (by omega) (by omega)
    have hq := qb_01 (S 0 31) t 0
    have hF1 : FlB (mkM (S 0 31) t 0 1) := FlB_mk hF (by omega) (Or.inr rfl)
    refine vg_sound (fun _ _ => false) (fun m => m == 150 || m == 114 || m == 109) 80 _ _ _ _ _ _ ?_
    repeat' first | (with_reducible refine vT ?_ ?_; · omega) | (with_reducible refine vF ?_ ?_; · omega) | (with_reducible refine vI (fun _ => ?_) (fun _ => ?_)) | (simp (config := {maxSteps := 1000000}) (disch := (first | assumption | omega | (rw [hr_at]; assumption) | (rw [hr_at]; omega))) only [f_X8_sellNow, f_X8_isTicket, f_X8_in, wg_0, wg_s, wK_none, wK_N, wK_C, wK_R, wQ_some, wQ_none, stR, mZ, mC, stI, ini, mL, gI, gA, sI, sA, bi, gF, pF, kF, kT, kL, c2, mT, mR, f4, tsw, lsw, tgt, inR, Nat.reduceLT, Nat.reduceLeDiff, Nat.reduceEqDiff, Nat.reduceAdd, Nat.reduceSub, ↓reduceIte, Bool.false_eq_true, List.map_cons, List.map_nil, List.length_cons, List.length_nil, List.replicate, List.cons_append, List.nil_append, List.getElem?_cons_zero, List.getElem?_cons_succ, List.set, List.take_succ_cons, List.take_zero, List.drop_succ_cons, List.drop_zero, List.reverse_cons, List.reverse_nil, Int.reduceLE, Int.reduceLT, Int.reduceNeg, Int.reduceToNat, true_and, and_true, and_self, beq_iff_eq, Bool.and_eq_true, Bool.or_eq_true, or_false, false_or, or_true, true_or, and_false, false_and, hu_hr, hr_hr, hr_at, hr_nc, not_false_eq_true, Int.reduceEq, Int.pow_zero, Int.reducePow, Int.reduceMul, Int.reduceAdd, Int.reduceDiv, Int.reduceMod, Int.zero_add, Int.add_zero, Int.mul_one, m_isDrawn, m_is, m_mark, m_soldOf, hF, hW])
    all_goals unfold slR slM
    all_goals (repeat (first | rw [if_pos (by omega)] | rw [if_neg (by omega)]))
    all_goals (first | exact ⟨rfl, rfl⟩ | exact ⟨rfl, (hr_id S 0 31).symm⟩)
  · refine vg_sound (fun _ _ => false) (fun m => m == 150 || m == 114 || m == 109) 80 _ _ _ _ _ _ ?_
    repeat' first | (with_reducible refine vT ?_ ?_; · omega) | (with_reducible refine vF ?_ ?_; · omega) | (with_reducible refine vI (fun _ => ?_) (fun _ => ?_)) | (simp (config := {maxSteps := 1000000}) (disch := (first | assumption | omega | (rw [hr_at]; assumption) | (rw [hr_at]; omega))) only [f_X8_sellNow, f_X8_isTicket, f_X8_in, wg_0, wg_s, wK_none, wK_N, wK_C, wK_R, wQ_some, wQ_none, stR, mZ, mC, stI, ini, mL, gI, gA, sI, sA, bi, gF, pF, kF, kT, kL, c2, mT, mR, f4, tsw, lsw, tgt, inR, Nat.reduceLT, Nat.reduceLeDiff, Nat.reduceEqDiff, Nat.reduceAdd, Nat.reduceSub, ↓reduceIte, Bool.false_eq_true, List.map_cons, List.map_nil, List.length_cons, List.length_nil, List.replicate, List.cons_append, List.nil_append, List.getElem?_cons_zero, List.getElem?_cons_succ, List.set, List.take_succ_cons, List.take_zero, List.drop_succ_cons, List.drop_zero, List.reverse_cons, List.reverse_nil, Int.reduceLE, Int.reduceLT, Int.reduceNeg, Int.reduceToNat, true_and, and_true, and_self, beq_iff_eq, Bool.and_eq_true, Bool.or_eq_true, or_false, false_or, or_true, true_or, and_false, false_and, hu_hr, hr_hr, hr_at, hr_nc, not_false_eq_true, Int.reduceEq, Int.pow_zero, Int.reducePow, Int.reduceMul, Int.reduceAdd, Int.reduceDiv, Int.reduceMod, Int.zero_add, Int.add_zero, Int.mul_one])
    all_goals unfold slR slM
    all_goals (repeat (first | rw [if_pos (by omega)] | rw [if_neg (by omega)]))
    all_goals (first | exact ⟨rfl, rfl⟩ | exact ⟨rfl, (hr_id S 0 31).symm⟩)
def lotM (M : Int → Int) (d : Int) : Int → Int := up (up M 1 ((75 * M 1 + 74) % ((65537 : Nat) : Int))) (53 + 2 * d) 1
def dwM (M : Int → Int) (d : Int) : Int → Int := if 0 ≤ d ∧ d ≤ 5 then (if M (53 + 2 * d) = 1 then M else up (lotM M d) (53 + 2 * d + 1) (lotM M d 1 % 100)) else M
def dwR (M : Int → Int) (d : Int) : Int := if 0 ≤ d ∧ d ≤ 5 then (if M (53 + 2 * d) = 1 then -4 else (75 * M 1 + 74) % ((65537 : Nat) : Int) % 100) else -1
set_option maxHeartbeats 4000000 in
set_option maxRecDepth 100000 in
theorem lot_1 {M : Int → Int} {d : Int} (hd : 0 ≤ d) : lotM M d 1 = (75 * M 1 + 74) % ((65537 : Nat) : Int) := by
  unfold lotM
  rw [up_ne (by omega), up_eq rfl]
set_option maxHeartbeats 4000000 in
set_option maxRecDepth 100000 in
theorem m_drawNow {S : Hp} {d : Int} (hW : DrW (S 0 31)) (h1 : 0 ≤ S 0 31 1 ∧ S 0 31 1 < 65537) (hd : -2147483648 ≤ d ∧ d < 2147483648) (Q : Option MV → Hp → Prop) : Wc 151 [.inr (0, 30), .inl d] S Q = Q (some (.inl (dwR (S 0 31) d))) (hr S 0 31 (dwM (S 0 31) d)) := by
  refine Wc_eq ?_ Q
  unfold Wc
  by_cases h : 0 ≤ d ∧ d ≤ 5
  · have hw := hW d (by omega) (by omega)
    have e1 := lot_1 (M := S 0 31) (d := d) (by omega)
    have e2 : up (lotM (S 0 31) d) (53 + 2 * d + 1) (lotM (S 0 31) d 1 % 100) 1 = (75 * S 0 31 1 + 74) % ((65537 : Nat) : Int) := by
      rw [up_ne (by omega)]
      exact e1
    have e3 := e1
    have e4 := e2
    unfold lotM at e3 e4
    refine vg_sound (fun _ _ => false) (fun m => m == 151 || m == 109) 80 _ _ _ _ _ _ ?_
    repeat' first | (with_reducible refine vT ?_ ?_; · omega) | (with_reducible refine vF ?_ ?_; · omega) | (with_reducible refine vI (fun _ => ?_) (fun _ => ?_)) | (simp (config := {maxSteps := 1000000}) (disch := (first | assumption | omega | (rw [hr_at]; assumption) | (rw [hr_at]; omega))) only [f_X8_drawNow, f_X8_in, wg_0, wg_s, wK_none, wK_N, wK_C, wK_R, wQ_some, wQ_none, stR, mZ, mC, stI, ini, mL, gI, gA, sI, sA, bi, gF, pF, kF, kT, kL, c2, mT, mR, f4, tsw, lsw, tgt, inR, Nat.reduceLT, Nat.reduceLeDiff, Nat.reduceEqDiff, Nat.reduceAdd, Nat.reduceSub, ↓reduceIte, Bool.false_eq_true, List.map_cons, List.map_nil, List.length_cons, List.length_nil, List.replicate, List.cons_append, List.nil_append, List.getElem?_cons_zero, List.getElem?_cons_succ, List.set, List.take_succ_cons, List.take_zero, List.drop_succ_cons, List.drop_zero, List.reverse_cons, List.reverse_nil, Int.reduceLE, Int.reduceLT, Int.reduceNeg, Int.reduceToNat, true_and, and_true, and_self, beq_iff_eq, Bool.and_eq_true, Bool.or_eq_true, or_false, false_or, or_true, true_or, and_false, false_and, hu_hr, hr_hr, hr_at, hr_nc, not_false_eq_true, Int.reduceEq, Int.pow_zero, Int.reducePow, Int.reduceMul, Int.reduceAdd, Int.reduceDiv, Int.reduceMod, Int.zero_add, Int.add_zero, Int.mul_one, m_isDrawn, hW])
    all_goals unfold dwR dwM
    all_goals (repeat (first | rw [if_pos (by omega)] | rw [if_neg (by omega)]))
    all_goals (first | exact ⟨rfl, rfl⟩ | exact ⟨rfl, (hr_id S 0 31).symm⟩ | skip)
    all_goals (try unfold lotM)
    all_goals (try rw [e4])
    all_goals (try exact ⟨rfl, rfl⟩)
  · refine vg_sound (fun _ _ => false) (fun m => m == 151 || m == 109) 80 _ _ _ _ _ _ ?_
    repeat' first | (with_reducible refine vT ?_ ?_; · omega) | (with_reducible refine vF ?_ ?_; · omega) | (with_reducible refine vI (fun _ => ?_) (fun _ => ?_)) | (simp (config := {maxSteps := 1000000}) (disch := (first | assumption | omega | (rw [hr_at]; assumption) | (rw [hr_at]; omega))) only [f_X8_drawNow, f_X8_in, wg_0, wg_s, wK_none, wK_N, wK_C, wK_R, wQ_some, wQ_none, stR, mZ, mC, stI, ini, mL, gI, gA, sI, sA, bi, gF, pF, kF, kT, kL, c2, mT, mR, f4, tsw, lsw, tgt, inR, Nat.reduceLT, Nat.reduceLeDiff, Nat.reduceEqDiff, Nat.reduceAdd, Nat.reduceSub, ↓reduceIte, Bool.false_eq_true, List.map_cons, List.map_nil, List.length_cons, List.length_nil, List.replicate, List.cons_append, List.nil_append, List.getElem?_cons_zero, List.getElem?_cons_succ, List.set, List.take_succ_cons, List.take_zero, List.drop_succ_cons, List.drop_zero, List.reverse_cons, List.reverse_nil, Int.reduceLE, Int.reduceLT, Int.reduceNeg, Int.reduceToNat, true_and, and_true, and_self, beq_iff_eq, Bool.and_eq_true, Bool.or_eq_true, or_false, false_or, or_true, true_or, and_false, false_and, hu_hr, hr_hr, hr_at, hr_nc, not_false_eq_true, Int.reduceEq, Int.pow_zero, Int.reducePow, Int.reduceMul, Int.reduceAdd, Int.reduceDiv, Int.reduceMod, Int.zero_add, Int.add_zero, Int.mul_one])
    all_goals unfold dwR dwM
    all_goals (repeat (first | rw [if_pos (by omega)] | rw [if_neg (by omega)]))
    all_goals (first | exact ⟨rfl, rfl⟩ | exact ⟨rfl, (hr_id S 0 31).symm⟩)
def cm0 (M : Int → Int) (w t : Int) : Int → Int := up M (8 + 15 * w + (1 + M (8 + 15 * w))) t
def cmM (M : Int → Int) (w t : Int) : Int → Int := if (0 ≤ w ∧ w ≤ 2) ∧ 0 ≤ t ∧ t < 600 then (if M (8 + 15 * w) = 8 then M else moM (cm0 M w t) w 0 1) else M
def cmR (M : Int → Int) (w t : Int) : Int := if (0 ≤ w ∧ w ≤ 2) ∧ 0 ≤ t ∧ t < 600 then (if M (8 + 15 * w) = 8 then -3 else M (8 + 15 * w) + 1) else -1
set_option maxHeartbeats 4000000 in
set_option maxRecDepth 100000 in
theorem cm_size {M : Int → Int} {w t : Int} (h : 0 ≤ M (8 + 15 * w)) : moM (cm0 M w t) w 0 1 (8 + 15 * w) = M (8 + 15 * w) + 1 := by
  unfold moM cm0
  rw [up_eq (by omega), up_ne (by omega), Int.add_zero]
set_option maxHeartbeats 4000000 in
set_option maxRecDepth 100000 in
theorem m_comeNow {S : Hp} {w t : Int} (hs : ∀ w : Int, 0 ≤ w → w < 3 → 0 ≤ S 0 31 (8 + 15 * w) ∧ S 0 31 (8 + 15 * w) ≤ 8) (hw : -2147483648 ≤ w ∧ w < 2147483648) (ht : -2147483648 ≤ t ∧ t < 2147483648) (Q : Option MV → Hp → Prop) : Wc 152 [.inr (0, 30), .inl w, .inl t] S Q = Q (some (.inl (cmR (S 0 31) w t))) (hr S 0 31 (cmM (S 0 31) w t)) := by
  refine Wc_eq ?_ Q
  unfold Wc
  by_cases h : (0 ≤ w ∧ w ≤ 2) ∧ 0 ≤ t ∧ t < 600
  · have hz := hs w (by omega) (by omega)
    have e1 := cm_size (M := S 0 31) (w := w) (t := t) hz.1
    have e2 := e1
    unfold cm0 at e2
    refine vg_sound (fun _ _ => false) (fun m => m == 152 || m == 114 || m == 109 || m == 117 || m == 118) 80 _ _ _ _ _ _ ?_
    repeat' first | (with_reducible refine vT ?_ ?_; · omega) | (with_reducible refine vF ?_ ?_; · omega) | (with_reducible refine vI (fun _ => ?_) (fun _ => ?_)) | (simp (config := {maxSteps := 1000000}) (disch := (first | assumption | omega | (rw [hr_at]; assumption) | (rw [hr_at]; omega))) only [f_X8_comeNow, f_X8_isTicket, f_X8_in, f_X8_at, f_X8_put, wg_0, wg_s, wK_none, wK_N, wK_C, wK_R, wQ_some, wQ_none, stR, mZ, mC, stI, ini, mL, gI, gA, sI, sA, bi, gF, pF, kF, kT, kL, c2, mT, mR, f4, tsw, lsw, tgt, inR, Nat.reduceLT, Nat.reduceLeDiff, Nat.reduceEqDiff, Nat.reduceAdd, Nat.reduceSub, ↓reduceIte, Bool.false_eq_true, List.map_cons, List.map_nil, List.length_cons, List.length_nil, List.replicate, List.cons_append, List.nil_append, List.getElem?_cons_zero, List.getElem?_cons_succ, List.set, List.take_succ_cons, List.take_zero, List.drop_succ_cons, List.drop_zero, List.reverse_cons, List.reverse_nil, Int.reduceLE, Int.reduceLT, Int.reduceNeg, Int.reduceToNat, true_and, and_true, and_self, beq_iff_eq, Bool.and_eq_true, Bool.or_eq_true, or_false, false_or, or_true, true_or, and_false, false_and, hu_hr, hr_hr, hr_at, hr_nc, not_false_eq_true, Int.reduceEq, Int.pow_zero, Int.reducePow, Int.reduceMul, Int.reduceAdd, Int.reduceDiv, Int.reduceMod, Int.zero_add, Int.add_zero, Int.mul_one, m_more])
    all_goals unfold cmR cmM
    all_goals (repeat (first | rw [if_pos (by omega)] | rw [if_neg (by omega)]))
    all_goals (first | exact ⟨rfl, rfl⟩ | exact ⟨rfl, (hr_id S 0 31).symm⟩ | skip)
    all_goals (try unfold cm0)
    all_goals (try rw [e2])
    all_goals (try exact ⟨rfl, rfl⟩)
  · refine vg_sound (fun _ _ => false) (fun m => m == 152 || m == 114 || m == 109) 80 _ _ _ _ _ _ ?_
    repeat' first | (with_reducible refine vT ?_ ?_; · omega) | (with_reducible refine vF ?_ ?_; · omega) | (with_reducible refine vI (fun _ => ?_) (fun _ => ?_)) | (simp (config := {maxSteps := 1000000}) (disch := (first | assumption | omega | (rw [hr_at]; assumption) | (rw [hr_at]; omega))) only [f_X8_comeNow, f_X8_isTicket, f_X8_in, wg_0, wg_s, wK_none, wK_N, wK_C, wK_R, wQ_some, wQ_none, stR, mZ, mC, stI, ini, mL, gI, gA, sI, sA, bi, gF, pF, kF, kT, kL, c2, mT, mR, f4, tsw, lsw, tgt, inR, Nat.reduceLT, Nat.reduceLeDiff, Nat.reduceEqDiff, Nat.reduceAdd, Nat.reduceSub, ↓reduceIte, Bool.false_eq_true, List.map_cons, List.map_nil, List.length_cons, List.length_nil, List.replicate, List.cons_append, List.nil_append, List.getElem?_cons_zero, List.getElem?_cons_succ, List.set, List.take_succ_cons, List.take_zero, List.drop_succ_cons, List.drop_zero, List.reverse_cons, List.reverse_nil, Int.reduceLE, Int.reduceLT, Int.reduceNeg, Int.reduceToNat, true_and, and_true, and_self, beq_iff_eq, Bool.and_eq_true, Bool.or_eq_true, or_false, false_or, or_true, true_or, and_false, false_and, hu_hr, hr_hr, hr_at, hr_nc, not_false_eq_true, Int.reduceEq, Int.pow_zero, Int.reducePow, Int.reduceMul, Int.reduceAdd, Int.reduceDiv, Int.reduceMod, Int.zero_add, Int.add_zero, Int.mul_one])
    all_goals unfold cmR cmM
    all_goals (repeat (first | rw [if_pos (by omega)] | rw [if_neg (by omega)]))
    all_goals (first | exact ⟨rfl, rfl⟩ | exact ⟨rfl, (hr_id S 0 31).symm⟩)
