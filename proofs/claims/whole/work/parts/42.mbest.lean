/-! THE REFERENCE: the best rule -/
set_option maxHeartbeats 4000000 in
set_option maxRecDepth 100000 in
theorem br_in {S : Hp} {N : Nat} {w b m r z : Int} {Q : Option MV → Hp → Prop} (hT : TkP (S 0 31) N) (hz : 0 ≤ z ∧ z < 99) (h : Wp 187 34 [some (.inr (0, 30)), some (.inl w), some (.inl b), some (.inl m), some (.inl r), some (.inl (z + 1))] [] (hr S 0 31 (tkM (S 0 31) N)) Q) : Wp 187 34 [some (.inr (0, 30)), some (.inl w), some (.inl b), some (.inl m), some (.inl r), some (.inl z)] [] S Q := by
  have r1 := fun Q => m_tickNow (S := S) hT Q
  refine vg_cut (fun m pc => (m == 187 && pc == 34)) (fun m => m == 187) 40 _ _ _ _ _ _ ?_
  repeat' first | (with_reducible refine vT ?_ ?_; · omega) | (with_reducible refine vF ?_ ?_; · omega) | (with_reducible refine vI (fun _ => ?_) (fun _ => ?_)) | (simp (config := {maxSteps := 1000000}) (disch := (first | assumption | omega | (rw [hr_at]; assumption) | (rw [hr_at]; omega))) only [f_X8_bestRule, wg_0, wg_s, wK_none, wK_N, wK_C, wK_R, wQ_some, wQ_none, stR, mZ, mC, stI, ini, mL, gI, gA, sI, sA, bi, gF, pF, kF, kT, kL, c2, mT, mR, f4, tsw, lsw, tgt, inR, Nat.reduceLT, Nat.reduceLeDiff, Nat.reduceEqDiff, Nat.reduceAdd, Nat.reduceSub, ↓reduceIte, Bool.false_eq_true, List.map_cons, List.map_nil, List.length_cons, List.length_nil, List.replicate, List.cons_append, List.nil_append, List.getElem?_cons_zero, List.getElem?_cons_succ, List.set, List.take_succ_cons, List.take_zero, List.drop_succ_cons, List.drop_zero, List.reverse_cons, List.reverse_nil, Int.reduceLE, Int.reduceLT, Int.reduceNeg, Int.reduceToNat, true_and, and_true, and_self, beq_iff_eq, Bool.and_eq_true, Bool.or_eq_true, or_false, false_or, or_true, true_or, and_false, false_and, hu_hr, hr_hr, hr_at, hr_nc, not_false_eq_true, Int.reduceEq, Int.pow_zero, Int.reducePow, Int.reduceMul, Int.reduceAdd, Int.reduceDiv, Int.reduceMod, Int.zero_add, Int.add_zero, Int.mul_one, Int.cast_ofNat_Int, r1])
  exact h
/- a rule weighed -/
abbrev brB (P : Int → Int) (w b m : Int) : Prop := ptC P ≤ w ∧ (b = -5 ∨ m < pyS P - cbA P)
set_option maxHeartbeats 4000000 in
set_option maxRecDepth 100000 in
theorem br_out {S : Hp} {w b m r : Int} {Q : Option MV → Hp → Prop} (hF : FlB (S 0 31)) (hP : PdB (S 0 31)) (h1 : tdR (ptC (S 0 31))) (h2 : tdR (pyS (S 0 31) - cbA (S 0 31))) (hw : tdR w) (hb : tdR b) (hm : tdR m) (hr0 : 0 ≤ r ∧ r < 3) (h : ∀ y : Option MV, Wp 187 17 [some (.inr (0, 30)), some (.inl w), some (.inl (if brB (S 0 31) w b m then r else b)), some (.inl (if brB (S 0 31) w b m then pyS (S 0 31) - cbA (S 0 31) else m)), some (.inl (r + 1)), y] [] (hr S 0 31 (cpF (S 0 31) (S 0 33) 3833)) Q) : Wp 187 34 [some (.inr (0, 30)), some (.inl w), some (.inl b), some (.inl m), some (.inl r), some (.inl 99)] [] S Q := by
  unfold tdR at h1 h2 hw hb hm
  by_cases e : brB (S 0 31) w b m
  · rw [if_pos e, if_pos e] at h
    unfold brB at e
    unfold pyS at h h2 e
    refine vg_cut (fun m pc => (m == 187 && pc == 17) || (m == 187 && pc == 34)) (fun m => m == 187) 80 _ _ _ _ _ _ ?_
    repeat' first | (with_reducible refine vT ?_ ?_; · omega) | (with_reducible refine vF ?_ ?_; · omega) | (with_reducible refine vI (fun _ => ?_) (fun _ => ?_)) | (simp (config := {maxSteps := 1000000}) (disch := (first | assumption | omega | (rw [hr_at]; assumption) | (rw [hr_at]; omega))) only [f_X8_bestRule, wg_0, wg_s, wK_none, wK_N, wK_C, wK_R, wQ_some, wQ_none, stR, mZ, mC, stI, ini, mL, gI, gA, sI, sA, bi, gF, pF, kF, kT, kL, c2, mT, mR, f4, tsw, lsw, tgt, inR, Nat.reduceLT, Nat.reduceLeDiff, Nat.reduceEqDiff, Nat.reduceAdd, Nat.reduceSub, ↓reduceIte, Bool.false_eq_true, List.map_cons, List.map_nil, List.length_cons, List.length_nil, List.replicate, List.cons_append, List.nil_append, List.getElem?_cons_zero, List.getElem?_cons_succ, List.set, List.take_succ_cons, List.take_zero, List.drop_succ_cons, List.drop_zero, List.reverse_cons, List.reverse_nil, Int.reduceLE, Int.reduceLT, Int.reduceNeg, Int.reduceToNat, true_and, and_true, and_self, beq_iff_eq, Bool.and_eq_true, Bool.or_eq_true, or_false, false_or, or_true, true_or, and_false, false_and, hu_hr, hr_hr, hr_at, hr_nc, not_false_eq_true, Int.reduceEq, Int.pow_zero, Int.reducePow, Int.reduceMul, Int.reduceAdd, Int.reduceDiv, Int.reduceMod, Int.zero_add, Int.add_zero, Int.mul_one, Int.cast_ofNat_Int, m_sumOf, m_calledBack, m_paidTwice, m_takeBack, hF, hP])
    all_goals exact h _
  · rw [if_neg e, if_neg e] at h
    unfold brB at e
    unfold pyS at h2 e
    refine vg_cut (fun m pc => (m == 187 && pc == 17) || (m == 187 && pc == 34)) (fun m => m == 187) 80 _ _ _ _ _ _ ?_
    repeat' first | (with_reducible refine vT ?_ ?_; · omega) | (with_reducible refine vF ?_ ?_; · omega) | (with_reducible refine vI (fun _ => ?_) (fun _ => ?_)) | (simp (config := {maxSteps := 1000000}) (disch := (first | assumption | omega | (rw [hr_at]; assumption) | (rw [hr_at]; omega))) only [f_X8_bestRule, wg_0, wg_s, wK_none, wK_N, wK_C, wK_R, wQ_some, wQ_none, stR, mZ, mC, stI, ini, mL, gI, gA, sI, sA, bi, gF, pF, kF, kT, kL, c2, mT, mR, f4, tsw, lsw, tgt, inR, Nat.reduceLT, Nat.reduceLeDiff, Nat.reduceEqDiff, Nat.reduceAdd, Nat.reduceSub, ↓reduceIte, Bool.false_eq_true, List.map_cons, List.map_nil, List.length_cons, List.length_nil, List.replicate, List.cons_append, List.nil_append, List.getElem?_cons_zero, List.getElem?_cons_succ, List.set, List.take_succ_cons, List.take_zero, List.drop_succ_cons, List.drop_zero, List.reverse_cons, List.reverse_nil, Int.reduceLE, Int.reduceLT, Int.reduceNeg, Int.reduceToNat, true_and, and_true, and_self, beq_iff_eq, Bool.and_eq_true, Bool.or_eq_true, or_false, false_or, or_true, true_or, and_false, false_and, hu_hr, hr_hr, hr_at, hr_nc, not_false_eq_true, Int.reduceEq, Int.pow_zero, Int.reducePow, Int.reduceMul, Int.reduceAdd, Int.reduceDiv, Int.reduceMod, Int.zero_add, Int.add_zero, Int.mul_one, Int.cast_ofNat_Int, m_sumOf, m_calledBack, m_paidTwice, m_takeBack, hF, hP])
    all_goals exact h _
set_option maxHeartbeats 4000000 in
set_option maxRecDepth 100000 in
theorem br_head {S : Hp} {w b m r : Int} {y : Option MV} {Q : Option MV → Hp → Prop} (hr0 : 0 ≤ r ∧ r < 3) (h : Wp 187 34 [some (.inr (0, 30)), some (.inl w), some (.inl b), some (.inl m), some (.inl r), some (.inl 0)] [] (hr S 0 31 (up (S 0 31) 5 r)) Q) : Wp 187 17 [some (.inr (0, 30)), some (.inl w), some (.inl b), some (.inl m), some (.inl r), y] [] S Q := by
  refine vg_cut (fun m pc => (m == 187 && pc == 17) || (m == 187 && pc == 34)) (fun m => m == 187) 80 _ _ _ _ _ _ ?_
  repeat' first | (with_reducible refine vT ?_ ?_; · omega) | (with_reducible refine vF ?_ ?_; · omega) | (with_reducible refine vI (fun _ => ?_) (fun _ => ?_)) | (simp (config := {maxSteps := 1000000}) (disch := (first | assumption | omega | (rw [hr_at]; assumption) | (rw [hr_at]; omega))) only [f_X8_bestRule, wg_0, wg_s, wK_none, wK_N, wK_C, wK_R, wQ_some, wQ_none, stR, mZ, mC, stI, ini, mL, gI, gA, sI, sA, bi, gF, pF, kF, kT, kL, c2, mT, mR, f4, tsw, lsw, tgt, inR, Nat.reduceLT, Nat.reduceLeDiff, Nat.reduceEqDiff, Nat.reduceAdd, Nat.reduceSub, ↓reduceIte, Bool.false_eq_true, List.map_cons, List.map_nil, List.length_cons, List.length_nil, List.replicate, List.cons_append, List.nil_append, List.getElem?_cons_zero, List.getElem?_cons_succ, List.set, List.take_succ_cons, List.take_zero, List.drop_succ_cons, List.drop_zero, List.reverse_cons, List.reverse_nil, Int.reduceLE, Int.reduceLT, Int.reduceNeg, Int.reduceToNat, true_and, and_true, and_self, beq_iff_eq, Bool.and_eq_true, Bool.or_eq_true, or_false, false_or, or_true, true_or, and_false, false_and, hu_hr, hr_hr, hr_at, hr_nc, not_false_eq_true, Int.reduceEq, Int.pow_zero, Int.reducePow, Int.reduceMul, Int.reduceAdd, Int.reduceDiv, Int.reduceMod, Int.zero_add, Int.add_zero, Int.mul_one, Int.cast_ofNat_Int])
  exact h
set_option maxHeartbeats 4000000 in
set_option maxRecDepth 100000 in
theorem br_end {S : Hp} {w b m : Int} {y : Option MV} {Q : Option MV → Hp → Prop} (h : Q (some (.inl b)) S) : Wp 187 17 [some (.inr (0, 30)), some (.inl w), some (.inl b), some (.inl m), some (.inl 3), y] [] S Q := by
  refine vg_cut (fun m pc => (m == 187 && pc == 17) || (m == 187 && pc == 34)) (fun m => m == 187) 80 _ _ _ _ _ _ ?_
  repeat' first | (with_reducible refine vT ?_ ?_; · omega) | (with_reducible refine vF ?_ ?_; · omega) | (with_reducible refine vI (fun _ => ?_) (fun _ => ?_)) | (simp (config := {maxSteps := 1000000}) (disch := (first | assumption | omega | (rw [hr_at]; assumption) | (rw [hr_at]; omega))) only [f_X8_bestRule, wg_0, wg_s, wK_none, wK_N, wK_C, wK_R, wQ_some, wQ_none, stR, mZ, mC, stI, ini, mL, gI, gA, sI, sA, bi, gF, pF, kF, kT, kL, c2, mT, mR, f4, tsw, lsw, tgt, inR, Nat.reduceLT, Nat.reduceLeDiff, Nat.reduceEqDiff, Nat.reduceAdd, Nat.reduceSub, ↓reduceIte, Bool.false_eq_true, List.map_cons, List.map_nil, List.length_cons, List.length_nil, List.replicate, List.cons_append, List.nil_append, List.getElem?_cons_zero, List.getElem?_cons_succ, List.set, List.take_succ_cons, List.take_zero, List.drop_succ_cons, List.drop_zero, List.reverse_cons, List.reverse_nil, Int.reduceLE, Int.reduceLT, Int.reduceNeg, Int.reduceToNat, true_and, and_true, and_self, beq_iff_eq, Bool.and_eq_true, Bool.or_eq_true, or_false, false_or, or_true, true_or, and_false, false_and, hu_hr, hr_hr, hr_at, hr_nc, not_false_eq_true, Int.reduceEq, Int.pow_zero, Int.reducePow, Int.reduceMul, Int.reduceAdd, Int.reduceDiv, Int.reduceMod, Int.zero_add, Int.add_zero, Int.mul_one, Int.cast_ofNat_Int])
  exact h
/- what must hold of every row on the way of a rule -/
def RtP (M : Int → Int) (r : Int) : Prop := (∀ k : Nat, k < 99 → TkP (rtM M r k) (nT (rtM M r k))) ∧ FlB (rtM M r 99) ∧ PdB (rtM M r 99) ∧ tdR (ptC (rtM M r 99)) ∧ tdR (pyS (rtM M r 99) - cbA (rtM M r 99))
set_option maxHeartbeats 4000000 in
set_option maxRecDepth 100000 in
theorem br_rule {S : Hp} {w b m r : Int} {y : Option MV} {Q : Option MV → Hp → Prop} (hr0 : 0 ≤ r ∧ r < 3) (hR : RtP (S 0 31) r) (hw : tdR w) (hb : tdR b) (hm : tdR m) (h : ∀ y : Option MV, Wp 187 17 [some (.inr (0, 30)), some (.inl w), some (.inl (if brB (rtM (S 0 31) r 99) w b m then r else b)), some (.inl (if brB (rtM (S 0 31) r 99) w b m then pyS (rtM (S 0 31) r 99) - cbA (rtM (S 0 31) r 99) else m)), some (.inl (r + 1)), y] [] (hr S 0 31 (cpF (rtM (S 0 31) r 99) (S 0 33) 3833)) Q) : Wp 187 17 [some (.inr (0, 30)), some (.inl w), some (.inl b), some (.inl m), some (.inl r), y] [] S Q := by
  refine br_head hr0 ?_
  obtain ⟨N, hN⟩ : ∃ N : Nat, N = 99 := ⟨_, rfl⟩
  refine wp_for (fun j => [some (.inr (0, 30)), some (.inl w), some (.inl b), some (.inl m), some (.inl r), some (.inl (j : Int))]) (fun j => hr S 0 31 (rtM (S 0 31) r j)) N rfl rfl (fun j hj h => ?_) ?_
  · refine br_in (N := nT (rtM (S 0 31) r j)) (by rw [hr_at]; exact hR.1 j (by omega)) (by omega) ?_
    rw [Int.natCast_add] at h
    rw [hr_hr, hr_at]
    exact h
  · have e : (N : Int) = 99 := by omega
    rw [e, hN]
    refine br_out (by rw [hr_at]; exact hR.2.1) (by rw [hr_at]; exact hR.2.2.1) (by rw [hr_at]; exact hR.2.2.2.1) (by rw [hr_at]; exact hR.2.2.2.2) hw hb hm hr0 ?_
    rw [hr_at, hr_hr, hr_nc (by decide)]
    exact h
def brR (P : Int → Int) (w r : Int) (q : Int × Int) : Int × Int := (if brB P w q.1 q.2 then r else q.1, if brB P w q.1 q.2 then pyS P - cbA P else q.2)
set_option maxHeartbeats 4000000 in
set_option maxRecDepth 100000 in
theorem brR_td {P : Int → Int} {w r : Int} {q : Int × Int} (hr0 : 0 ≤ r ∧ r < 3) (h : tdR (pyS P - cbA P)) (h1 : tdR q.1) (h2 : tdR q.2) : tdR (brR P w r q).1 ∧ tdR (brR P w r q).2 := by
  unfold brR tdR at *
  dsimp only
  by_cases e : brB P w q.1 q.2
  · rw [if_pos e, if_pos e]; omega
  · rw [if_neg e, if_neg e]; omega
/- the rows after each rule -/
def brN (M : Int → Int) : Nat → (Int → Int)
  | 0 => M
  | k + 1 => cpF (rtM (brN M k) (k : Int) 99) M 3833
def brV (M : Int → Int) : Nat → Int × Int
  | 0 => (-5, 0)
  | k + 1 => brR (rtM (brN M k) (k : Int) 99) (ptC M) (k : Int) (brV M k)
set_option maxHeartbeats 4000000 in
set_option maxRecDepth 100000 in
theorem m_bestRule {S : Hp} (hP0 : PdB (S 0 31)) (hw : tdR (ptC (S 0 31))) (hR : ∀ k : Nat, k < 3 → RtP (brN (S 0 31) k) (k : Int)) (Q : Option MV → Hp → Prop) : Wc 187 [.inr (0, 30)] S Q = Q (some (.inl (brV (S 0 31) 3).1)) (hr (hr S 0 33 (cpF (S 0 33) (S 0 31) 3833)) 0 31 (brN (S 0 31) 3)) := by
  refine Wc_eq ?_ Q
  unfold Wc
  have r1 := fun Q => m_lay (S := S) Q
  refine vg_sound (fun m pc => (m == 187 && pc == 17)) (fun m => m == 187) 40 _ _ _ _ _ _ ?_
  repeat' first | (with_reducible refine vT ?_ ?_; · omega) | (with_reducible refine vF ?_ ?_; · omega) | (with_reducible refine vI (fun _ => ?_) (fun _ => ?_)) | (simp (config := {maxSteps := 1000000}) (disch := (first | assumption | omega | (rw [hr_at]; assumption) | (rw [hr_at]; omega))) only [f_X8_bestRule, wg_0, wg_s, wK_none, wK_N, wK_C, wK_R, wQ_some, wQ_none, stR, mZ, mC, stI, ini, mL, gI, gA, sI, sA, bi, gF, pF, kF, kT, kL, c2, mT, mR, f4, tsw, lsw, tgt, inR, Nat.reduceLT, Nat.reduceLeDiff, Nat.reduceEqDiff, Nat.reduceAdd, Nat.reduceSub, ↓reduceIte, Bool.false_eq_true, List.map_cons, List.map_nil, List.length_cons, List.length_nil, List.replicate, List.cons_append, List.nil_append, List.getElem?_cons_zero, List.getElem?_cons_succ, List.set, List.take_succ_cons, List.take_zero, List.drop_succ_cons, List.drop_zero, List.reverse_cons, List.reverse_nil, Int.reduceLE, Int.reduceLT, Int.reduceNeg, Int.reduceToNat, true_and, and_true, and_self, beq_iff_eq, Bool.and_eq_true, Bool.or_eq_true, or_false, false_or, or_true, true_or, and_false, false_and, hu_hr, hr_hr, hr_at, hr_nc, not_false_eq_true, Int.reduceEq, Int.pow_zero, Int.reducePow, Int.reduceMul, Int.reduceAdd, Int.reduceDiv, Int.reduceMod, Int.zero_add, Int.add_zero, Int.mul_one, Int.cast_ofNat_Int, r1, m_paidTwice, hP0])
  have v0 : tdR (brV (S 0 31) 0).1 ∧ tdR (brV (S 0 31) 0).2 := by unfold brV tdR; decide
  have v1 := brR_td (P := rtM (brN (S 0 31) 0) 0 99) (w := ptC (S 0 31)) (r := 0) (q := brV (S 0 31) 0) (by omega) (hR 0 (by omega)).2.2.2.2 v0.1 v0.2
  have v2 := brR_td (P := rtM (brN (S 0 31) 1) 1 99) (w := ptC (S 0 31)) (r := 1) (q := brV (S 0 31) 1) (by omega) (hR 1 (by omega)).2.2.2.2 v1.1 v1.2
  refine br_rule (by omega) (by rw [hr_nc (by decide)]; exact hR 0 (by omega)) hw v0.1 v0.2 (fun y => ?_)
  rw [hr_nc (by decide), hr_at]
  refine br_rule (r := 1) (by omega) (by rw [hr_at, cpF_abs]; exact hR 1 (by omega)) hw v1.1 v1.2 (fun y => ?_)
  rw [hr_at, hr_hr, hr_nc (by decide), hr_at, cpF_abs, cpF_abs]
  refine br_rule (r := 2) (by omega) (by rw [hr_at]; exact hR 2 (by omega)) hw v2.1 v2.2 (fun y => ?_)
  rw [hr_at, hr_hr, hr_nc (by decide), hr_at, cpF_abs]
  exact br_end ⟨rfl, rfl⟩
