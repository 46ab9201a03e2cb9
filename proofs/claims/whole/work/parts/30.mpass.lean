/-! THE REFERENCE's row: time passes -/
def coS (M : Int → Int) : Int := M 19 + M 34 + M 49
/- how many messages there are when those of a tick have been delivered -/
def nT (M : Int → Int) : Nat := (m1 M (M 2).toNat 2).toNat
def pvM (M : Int → Int) : Nat → (Int → Int)
  | 0 => M
  | k + 1 => tkM (pvM M k) (nT (pvM M k))
set_option maxHeartbeats 4000000 in
set_option maxRecDepth 100000 in
theorem pass_step {S : Hp} {N : Nat} {z t c : Int} {Q : Option MV → Hp → Prop} (hT : TkP (S 0 31) N) (hz : 0 ≤ z ∧ z < t) (ht : 1 ≤ t ∧ t ≤ 99) (h : Wp 154 39 [some (.inr (0, 30)), some (.inl t), some (.inl c), some (.inl (z + 1))] [] (hr S 0 31 (tkM (S 0 31) N)) Q) : Wp 154 39 [some (.inr (0, 30)), some (.inl t), some (.inl c), some (.inl z)] [] S Q := by
  have r1 := fun Q => m_tickNow (S := S) hT Q
  refine vg_cut (fun m pc => (m == 154 && pc == 39)) (fun m => m == 154) 40 _ _ _ _ _ _ ?_
  repeat' first | (with_reducible refine vT ?_ ?_; · omega) | (with_reducible refine vF ?_ ?_; · omega) | (with_reducible refine vI (fun _ => ?_) (fun _ => ?_)) | (simp (config := {maxSteps := 1000000}) (disch := (first | assumption | omega | (rw [hr_at]; assumption) | (rw [hr_at]; omega))) only [f_X8_passNow, wg_0, wg_s, wK_none, wK_N, wK_C, wK_R, wQ_some, wQ_none, stR, mZ, mC, stI, ini, mL, gI, gA, sI, sA, bi, gF, pF, kF, kT, kL, c2, mT, mR, f4, tsw, lsw, tgt, inR, Nat.reduceLT, Nat.reduceLeDiff, Nat.reduceEqDiff, Nat.reduceAdd, Nat.reduceSub, ↓reduceIte, Bool.false_eq_true, List.map_cons, List.map_nil, List.length_cons, List.length_nil, List.replicate, List.cons_append, List.nil_append, List.getElem?_cons_zero, List.getElem?_cons_succ, List.set, List.take_succ_cons, List.take_zero, List.drop_succ_cons, List.drop_zero, List.reverse_cons, List.reverse_nil, Int.reduceLE, Int.reduceLT, Int.reduceNeg, Int.reduceToNat, true_and, and_true, and_self, beq_iff_eq, Bool.and_eq_true, Bool.or_eq_true, or_false, false_or, or_true, true_or, and_false, false_and, hu_hr, hr_hr, hr_at, hr_nc, not_false_eq_true, Int.reduceEq, Int.pow_zero, Int.reducePow, Int.reduceMul, Int.reduceAdd, Int.reduceDiv, Int.reduceMod, Int.zero_add, Int.add_zero, Int.mul_one, r1])
  exact h
set_option maxHeartbeats 4000000 in
set_option maxRecDepth 100000 in
theorem pass_end {S : Hp} {t c : Int} {Q : Option MV → Hp → Prop} (ht : 1 ≤ t ∧ t ≤ 99) (h : Q (some (.inl (coS (S 0 31) - c))) S) : Wp 154 39 [some (.inr (0, 30)), some (.inl t), some (.inl c), some (.inl t)] [] S Q := by
  unfold coS at h
  refine vg_cut (fun m pc => (m == 154 && pc == 39)) (fun m => m == 154) 40 _ _ _ _ _ _ ?_
  repeat' first | (with_reducible refine vT ?_ ?_; · omega) | (with_reducible refine vF ?_ ?_; · omega) | (with_reducible refine vI (fun _ => ?_) (fun _ => ?_)) | (simp (config := {maxSteps := 1000000}) (disch := (first | assumption | omega | (rw [hr_at]; assumption) | (rw [hr_at]; omega))) only [f_X8_passNow, wg_0, wg_s, wK_none, wK_N, wK_C, wK_R, wQ_some, wQ_none, stR, mZ, mC, stI, ini, mL, gI, gA, sI, sA, bi, gF, pF, kF, kT, kL, c2, mT, mR, f4, tsw, lsw, tgt, inR, Nat.reduceLT, Nat.reduceLeDiff, Nat.reduceEqDiff, Nat.reduceAdd, Nat.reduceSub, ↓reduceIte, Bool.false_eq_true, List.map_cons, List.map_nil, List.length_cons, List.length_nil, List.replicate, List.cons_append, List.nil_append, List.getElem?_cons_zero, List.getElem?_cons_succ, List.set, List.take_succ_cons, List.take_zero, List.drop_succ_cons, List.drop_zero, List.reverse_cons, List.reverse_nil, Int.reduceLE, Int.reduceLT, Int.reduceNeg, Int.reduceToNat, true_and, and_true, and_self, beq_iff_eq, Bool.and_eq_true, Bool.or_eq_true, or_false, false_or, or_true, true_or, and_false, false_and, hu_hr, hr_hr, hr_at, hr_nc, not_false_eq_true, Int.reduceEq, Int.pow_zero, Int.reducePow, Int.reduceMul, Int.reduceAdd, Int.reduceDiv, Int.reduceMod, Int.zero_add, Int.add_zero, Int.mul_one, m_sumOf])
  exact h
def paM (M : Int → Int) (t : Int) : Int → Int := if 1 ≤ t ∧ t ≤ 99 then (if 9999 < M 0 + t then M else pvM M t.toNat) else M
def paR (M : Int → Int) (t : Int) : Int := if 1 ≤ t ∧ t ≤ 99 then (if 9999 < M 0 + t then -3 else coS (pvM M t.toNat) - coS M) else -2
set_option maxHeartbeats 4000000 in
set_option maxRecDepth 100000 in
theorem pass_loop {S : Hp} {t c : Int} {N : Nat} {Q : Option MV → Hp → Prop} (hN : t = N) (ht : 1 ≤ t ∧ t ≤ 99) (hk : ∀ k : Nat, (k : Int) < t → TkP (pvM (S 0 31) k) (nT (pvM (S 0 31) k))) (h : Q (some (.inl (coS (pvM (S 0 31) N) - c))) (hr S 0 31 (pvM (S 0 31) N))) : Wp 154 39 [some (.inr (0, 30)), some (.inl t), some (.inl c), some (.inl 0)] [] S Q := by
  refine wp_for (fun j => [some (.inr (0, 30)), some (.inl t), some (.inl c), some (.inl (j : Int))]) (fun j => hr S 0 31 (pvM (S 0 31) j)) N rfl (hr_id S 0 31).symm (fun j hj h => ?_) ?_
  · refine pass_step (N := nT (pvM (S 0 31) j)) (by rw [hr_at]; exact hk j (by omega)) (by omega) ht ?_
    rw [Int.natCast_add] at h
    rw [hr_hr, hr_at]
    exact h
  · rw [← hN]
    exact pass_end ht (by rw [hr_at]; exact h)
set_option maxHeartbeats 4000000 in
set_option maxRecDepth 100000 in
theorem m_passNow {S : Hp} {t : Int} (h0 : 0 ≤ S 0 31 0 ∧ S 0 31 0 ≤ 9999) (ht : -2147483648 ≤ t ∧ t < 2147483648) (hk : 1 ≤ t → S 0 31 0 + t ≤ 9999 → ∀ k : Nat, (k : Int) < t → TkP (pvM (S 0 31) k) (nT (pvM (S 0 31) k))) (Q : Option MV → Hp → Prop) : Wc 154 [.inr (0, 30), .inl t] S Q = Q (some (.inl (paR (S 0 31) t))) (hr S 0 31 (paM (S 0 31) t)) := by
  refine Wc_eq ?_ Q
  unfold Wc
  unfold paR paM
  by_cases h : 1 ≤ t ∧ t ≤ 99
  · rw [if_pos h, if_pos h]
    by_cases hl : 9999 < S 0 31 0 + t
    · rw [if_pos hl, if_pos hl, hr_id]
      refine vg_sound (fun m pc => (m == 154 && pc == 39)) (fun m => m == 154 || m == 109) 80 _ _ _ _ _ _ ?_
      repeat' first | (with_reducible refine vT ?_ ?_; · omega) | (with_reducible refine vF ?_ ?_; · omega) | (with_reducible refine vI (fun _ => ?_) (fun _ => ?_)) | (simp (config := {maxSteps := 1000000}) (disch := (first | assumption | omega | (rw [hr_at]; assumption) | (rw [hr_at]; omega))) only [f_X8_passNow, f_X8_in, wg_0, wg_s, wK_none, wK_N, wK_C, wK_R, wQ_some, wQ_none, stR, mZ, mC, stI, ini, mL, gI, gA, sI, sA, bi, gF, pF, kF, kT, kL, c2, mT, mR, f4, tsw, lsw, tgt, inR, Nat.reduceLT, Nat.reduceLeDiff, Nat.reduceEqDiff, Nat.reduceAdd, Nat.reduceSub, ↓reduceIte, Bool.false_eq_true, List.map_cons, List.map_nil, List.length_cons, List.length_nil, List.replicate, List.cons_append, List.nil_append, List.getElem?_cons_zero, List.getElem?_cons_succ, List.set, List.take_succ_cons, List.take_zero, List.drop_succ_cons, List.drop_zero, List.reverse_cons, List.reverse_nil, Int.reduceLE, Int.reduceLT, Int.reduceNeg, Int.reduceToNat, true_and, and_true, and_self, beq_iff_eq, Bool.and_eq_true, Bool.or_eq_true, or_false, false_or, or_true, true_or, and_false, false_and, hu_hr, hr_hr, hr_at, hr_nc, not_false_eq_true, Int.reduceEq, Int.pow_zero, Int.reducePow, Int.reduceMul, Int.reduceAdd, Int.reduceDiv, Int.reduceMod, Int.zero_add, Int.add_zero, Int.mul_one, m_sumOf])
      all_goals (first | trivial | exact ⟨rfl, rfl⟩)
    · rw [if_neg hl, if_neg hl]
      have hgo := pass_loop (S := S) (t := t) (c := coS (S 0 31)) (N := t.toNat) (Q := fun r T => r = some (.inl (coS (pvM (S 0 31) t.toNat) - coS (S 0 31))) ∧ T = hr S 0 31 (pvM (S 0 31) t.toNat)) (by omega) h (hk h.1 (by omega)) ⟨rfl, rfl⟩
      generalize pvM (S 0 31) t.toNat = A at hgo ⊢
      unfold coS at hgo ⊢
      refine vg_sound (fun m pc => (m == 154 && pc == 39)) (fun m => m == 154 || m == 109) 80 _ _ _ _ _ _ ?_
      repeat' first | (with_reducible refine vT ?_ ?_; · omega) | (with_reducible refine vF ?_ ?_; · omega) | (with_reducible refine vI (fun _ => ?_) (fun _ => ?_)) | (simp (config := {maxSteps := 1000000}) (disch := (first | assumption | omega | (rw [hr_at]; assumption) | (rw [hr_at]; omega))) only [f_X8_passNow, f_X8_in, wg_0, wg_s, wK_none, wK_N, wK_C, wK_R, wQ_some, wQ_none, stR, mZ, mC, stI, ini, mL, gI, gA, sI, sA, bi, gF, pF, kF, kT, kL, c2, mT, mR, f4, tsw, lsw, tgt, inR, Nat.reduceLT, Nat.reduceLeDiff, Nat.reduceEqDiff, Nat.reduceAdd, Nat.reduceSub, ↓reduceIte, Bool.false_eq_true, List.map_cons, List.map_nil, List.length_cons, List.length_nil, List.replicate, List.cons_append, List.nil_append, List.getElem?_cons_zero, List.getElem?_cons_succ, List.set, List.take_succ_cons, List.take_zero, List.drop_succ_cons, List.drop_zero, List.reverse_cons, List.reverse_nil, Int.reduceLE, Int.reduceLT, Int.reduceNeg, Int.reduceToNat, true_and, and_true, and_self, beq_iff_eq, Bool.and_eq_true, Bool.or_eq_true, or_false, false_or, or_true, true_or, and_false, false_and, hu_hr, hr_hr, hr_at, hr_nc, not_false_eq_true, Int.reduceEq, Int.pow_zero, Int.reducePow, Int.reduceMul, Int.reduceAdd, Int.reduceDiv, Int.reduceMod, Int.zero_add, Int.add_zero, Int.mul_one, m_sumOf])
      all_goals exact hgo
  · rw [if_neg h, if_neg h, hr_id]
    refine vg_sound (fun m pc => (m == 154 && pc == 39)) (fun m => m == 154 || m == 109) 80 _ _ _ _ _ _ ?_
    repeat' first | (with_reducible refine vT ?_ ?_; · omega) | (with_reducible refine vF ?_ ?_; · omega) | (with_reducible refine vI (fun _ => ?_) (fun _ => ?_)) | (simp (config := {maxSteps := 1000000}) (disch := (first | assumption | omega | (rw [hr_at]; assumption) | (rw [hr_at]; omega))) only [f_X8_passNow, f_X8_in, wg_0, wg_s, wK_none, wK_N, wK_C, wK_R, wQ_some, wQ_none, stR, mZ, mC, stI, ini, mL, gI, gA, sI, sA, bi, gF, pF, kF, kT, kL, c2, mT, mR, f4, tsw, lsw, tgt, inR, Nat.reduceLT, Nat.reduceLeDiff, Nat.reduceEqDiff, Nat.reduceAdd, Nat.reduceSub, ↓reduceIte, Bool.false_eq_true, List.map_cons, List.map_nil, List.length_cons, List.length_nil, List.replicate, List.cons_append, List.nil_append, List.getElem?_cons_zero, List.getElem?_cons_succ, List.set, List.take_succ_cons, List.take_zero, List.drop_succ_cons, List.drop_zero, List.reverse_cons, List.reverse_nil, Int.reduceLE, Int.reduceLT, Int.reduceNeg, Int.reduceToNat, true_and, and_true, and_self, beq_iff_eq, Bool.and_eq_true, Bool.or_eq_true, or_false, false_or, or_true, true_or, and_false, false_and, hu_hr, hr_hr, hr_at, hr_nc, not_false_eq_true, Int.reduceEq, Int.pow_zero, Int.reducePow, Int.reduceMul, Int.reduceAdd, Int.reduceDiv, Int.reduceMod, Int.zero_add, Int.add_zero, Int.mul_one])
    all_goals (first | trivial | exact ⟨rfl, rfl⟩)
