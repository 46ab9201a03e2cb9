/-! THE CLASS: the clerk; a tick -/
def qfR (f : Int → Int) : Nat → (Int → Int)
  | 0 => f
  | j + 1 => up (qfR f j) ((j : Int) + 1 - 1) (qfR f j ((j : Int) + 1))
set_option maxHeartbeats 4000000 in
set_option maxRecDepth 100000 in
theorem qfR_at {f : Int → Int} : ∀ (n : Nat) (i : Int), qfR f n i = if 0 ≤ i ∧ i < n then f (i + 1) else f i
  | 0, i => by
    rw [if_neg (by omega)]
    rfl
  | n + 1, i => by
    unfold qfR
    by_cases h : i = (n : Int) + 1 - 1
    · rw [up_eq h, qfR_at n, if_neg (by omega), if_pos (by omega), h]
      congr 1
      omega
    · rw [up_ne h, qfR_at n]
      by_cases h2 : 0 ≤ i ∧ i < n
      · rw [if_pos h2, if_pos (by omega)]
      · rw [if_neg h2, if_neg (by omega)]
set_option maxHeartbeats 4000000 in
set_option maxRecDepth 100000 in
theorem qf_step {S : Hp} {k : Nat} {O : Of} {t z : Int} {Q : Option MV → Hp → Prop} (hn : 0 ≤ O 21 0 ∧ O 21 0 ≤ 114) (hz : 1 ≤ z ∧ z < O 21 0) (h : Wp 3 19 [some (.inr (k, 21)), some (.inl t), some (.inl (z + 1))] [] (ho S k (oc O 22 (up (O 22) (z - 1) (O 22 z)))) Q) : Wp 3 19 [some (.inr (k, 21)), some (.inl t), some (.inl z)] [] (ho S k O) Q := by
  refine vg_cut (fun m pc => (m == 3 && pc == 19)) (fun m => m == 3) 60 _ _ _ _ _ _ ?_
  repeat' first | (with_reducible refine vT ?_ ?_; · omega) | (with_reducible refine vF ?_ ?_; · omega) | (with_reducible refine vI (fun _ => ?_) (fun _ => ?_)) | (simp (config := {maxSteps := 1000000}) (disch := (first | assumption | omega | (rw [hr_at]; assumption) | (rw [hr_at]; omega) | (repeat' first | assumption | decide | omega | refine FxB_nc ?_ ?_ | refine adO_B ?_ ?_ | refine rmO_B ?_ ?_))) only [f_X0_takeFirst, wg_0, wg_s, wK_none, wK_N, wK_C, wK_R, wQ_some, wQ_none, stR, mZ, mC, stI, ini, mL, gI, gA, sI, sA, bi, gF, pF, kF, kT, kL, c2, mT, mR, f4, tsw, lsw, tgt, inR, Nat.reduceLT, Nat.reduceLeDiff, Nat.reduceEqDiff, Nat.reduceAdd, Nat.reduceSub, ↓reduceIte, Bool.false_eq_true, List.map_cons, List.map_nil, List.length_cons, List.length_nil, List.replicate, List.cons_append, List.nil_append, List.getElem?_cons_zero, List.getElem?_cons_succ, List.set, List.take_succ_cons, List.take_zero, List.drop_succ_cons, List.drop_zero, List.reverse_cons, List.reverse_nil, Int.reduceLE, Int.reduceLT, Int.reduceNeg, Int.reduceToNat, true_and, and_true, and_self, beq_iff_eq, Bool.and_eq_true, Bool.or_eq_true, or_false, false_or, or_true, true_or, and_false, false_and, hu_ho, ho_at, oc_at, oc_nc, oc_oc, adO_nc, rmO_nc, not_false_eq_true, Int.reduceEq, Int.pow_zero, Int.reducePow, Int.reduceMul, Int.reduceAdd, Int.reduceDiv, Int.reduceMod, Int.zero_add, Int.add_zero, Int.mul_one, Int.cast_ofNat_Int])
  exact h
set_option maxHeartbeats 4000000 in
set_option maxRecDepth 100000 in
theorem qf_end {S : Hp} {k : Nat} {O : Of} {t z : Int} {Q : Option MV → Hp → Prop} (hn : 0 ≤ O 21 0 ∧ O 21 0 ≤ 114) (hz : z = O 21 0) (h : Q (some (.inl t)) (ho S k (oc O 21 (up (O 21) 0 (O 21 0 - 1))))) : Wp 3 19 [some (.inr (k, 21)), some (.inl t), some (.inl z)] [] (ho S k O) Q := by
  refine vg_cut (fun m pc => (m == 3 && pc == 19)) (fun m => m == 3) 60 _ _ _ _ _ _ ?_
  repeat' first | (with_reducible refine vT ?_ ?_; · omega) | (with_reducible refine vF ?_ ?_; · omega) | (with_reducible refine vI (fun _ => ?_) (fun _ => ?_)) | (simp (config := {maxSteps := 1000000}) (disch := (first | assumption | omega | (rw [hr_at]; assumption) | (rw [hr_at]; omega) | (repeat' first | assumption | decide | omega | refine FxB_nc ?_ ?_ | refine adO_B ?_ ?_ | refine rmO_B ?_ ?_))) only [f_X0_takeFirst, wg_0, wg_s, wK_none, wK_N, wK_C, wK_R, wQ_some, wQ_none, stR, mZ, mC, stI, ini, mL, gI, gA, sI, sA, bi, gF, pF, kF, kT, kL, c2, mT, mR, f4, tsw, lsw, tgt, inR, Nat.reduceLT, Nat.reduceLeDiff, Nat.reduceEqDiff, Nat.reduceAdd, Nat.reduceSub, ↓reduceIte, Bool.false_eq_true, List.map_cons, List.map_nil, List.length_cons, List.length_nil, List.replicate, List.cons_append, List.nil_append, List.getElem?_cons_zero, List.getElem?_cons_succ, List.set, List.take_succ_cons, List.take_zero, List.drop_succ_cons, List.drop_zero, List.reverse_cons, List.reverse_nil, Int.reduceLE, Int.reduceLT, Int.reduceNeg, Int.reduceToNat, true_and, and_true, and_self, beq_iff_eq, Bool.and_eq_true, Bool.or_eq_true, or_false, false_or, or_true, true_or, and_false, false_and, hu_ho, ho_at, oc_at, oc_nc, oc_oc, adO_nc, rmO_nc, not_false_eq_true, Int.reduceEq, Int.pow_zero, Int.reducePow, Int.reduceMul, Int.reduceAdd, Int.reduceDiv, Int.reduceMod, Int.zero_add, Int.add_zero, Int.mul_one, Int.cast_ofNat_Int])
  exact h
def dfO (O : Of) : Of := oc (oc O 22 (qfR (O 22) ((O 21 0).toNat - 1))) 21 (up (O 21) 0 (O 21 0 - 1))
set_option maxHeartbeats 4000000 in
set_option maxRecDepth 100000 in
theorem c_takeDispute {S : Hp} {k : Nat} {O : Of} (hn : 1 ≤ O 21 0 ∧ O 21 0 ≤ 114) (Q : Option MV → Hp → Prop) : Wc 3 [.inr (k, 21)] (ho S k O) Q = Q (some (.inl (O 22 0))) (ho S k (dfO O)) := by
  refine Wc_eq ?_ Q
  unfold Wc
  refine vg_sound (fun m pc => (m == 3 && pc == 19)) (fun m => m == 3) 30 _ _ _ _ _ _ ?_
  repeat' first | (with_reducible refine vT ?_ ?_; · omega) | (with_reducible refine vF ?_ ?_; · omega) | (with_reducible refine vI (fun _ => ?_) (fun _ => ?_)) | (simp (config := {maxSteps := 1000000}) (disch := (first | assumption | omega | (rw [hr_at]; assumption) | (rw [hr_at]; omega) | (repeat' first | assumption | decide | omega | refine FxB_nc ?_ ?_ | refine adO_B ?_ ?_ | refine rmO_B ?_ ?_))) only [f_X0_takeFirst, wg_0, wg_s, wK_none, wK_N, wK_C, wK_R, wQ_some, wQ_none, stR, mZ, mC, stI, ini, mL, gI, gA, sI, sA, bi, gF, pF, kF, kT, kL, c2, mT, mR, f4, tsw, lsw, tgt, inR, Nat.reduceLT, Nat.reduceLeDiff, Nat.reduceEqDiff, Nat.reduceAdd, Nat.reduceSub, ↓reduceIte, Bool.false_eq_true, List.map_cons, List.map_nil, List.length_cons, List.length_nil, List.replicate, List.cons_append, List.nil_append, List.getElem?_cons_zero, List.getElem?_cons_succ, List.set, List.take_succ_cons, List.take_zero, List.drop_succ_cons, List.drop_zero, List.reverse_cons, List.reverse_nil, Int.reduceLE, Int.reduceLT, Int.reduceNeg, Int.reduceToNat, true_and, and_true, and_self, beq_iff_eq, Bool.and_eq_true, Bool.or_eq_true, or_false, false_or, or_true, true_or, and_false, false_and, hu_ho, ho_at, oc_at, oc_nc, oc_oc, adO_nc, rmO_nc, not_false_eq_true, Int.reduceEq, Int.pow_zero, Int.reducePow, Int.reduceMul, Int.reduceAdd, Int.reduceDiv, Int.reduceMod, Int.zero_add, Int.add_zero, Int.mul_one, Int.cast_ofNat_Int])
  obtain ⟨N, hN⟩ : ∃ N : Nat, N = (O 21 0).toNat - 1 := ⟨_, rfl⟩
  unfold dfO
  rw [← hN]
  refine wp_for (fun j => [some (.inr (k, 21)), some (.inl (O 22 0)), some (.inl ((j : Int) + 1))]) (fun j => ho S k (oc O 22 (qfR (O 22) j))) N rfl (by unfold qfR; rw [oc_id]) (fun j hj h => ?_) ?_
  · refine qf_step (by rw [oc_nc (by decide)]; omega) (by rw [oc_nc (by decide)]; omega) ?_
    rw [Int.natCast_add] at h
    rw [oc_oc, oc_at]
    exact h
  · refine qf_end (by rw [oc_nc (by decide)]; omega) (by rw [oc_nc (by decide)]; omega) ?_
    rw [oc_nc (by decide)]
    exact ⟨rfl, rfl⟩
def fpO (O : Of) (t : Int) : Int := if O 4 t = 0 then -5 else (O 4 t - 1) % 3
set_option maxHeartbeats 4000000 in
set_option maxRecDepth 100000 in
theorem c_firstPayer {S : Hp} {k : Nat} {O : Of} {t : Int} (h4 : 0 ≤ O 4 t ∧ O 4 t < 1000000) (ht : 0 ≤ t ∧ t < 600) (Q : Option MV → Hp → Prop) : Wc 51 [.inr (k, 2), .inl t] (ho S k O) Q = Q (some (.inl (fpO O t))) (ho S k O) := by
  refine Wc_eq ?_ Q
  unfold Wc fpO
  by_cases h : O 4 t = 0
  · rw [if_pos h]
    refine vg_sound (fun _ _ => false) (fun m => m == 51) 60 _ _ _ _ _ _ ?_
    repeat' first | (with_reducible refine vT ?_ ?_; · omega) | (with_reducible refine vF ?_ ?_; · omega) | (with_reducible refine vI (fun _ => ?_) (fun _ => ?_)) | (simp (config := {maxSteps := 1000000}) (disch := (first | assumption | omega | (rw [hr_at]; assumption) | (rw [hr_at]; omega) | (repeat' first | assumption | decide | omega | refine FxB_nc ?_ ?_ | refine adO_B ?_ ?_ | refine rmO_B ?_ ?_))) only [f_X5_firstPayer, wg_0, wg_s, wK_none, wK_N, wK_C, wK_R, wQ_some, wQ_none, stR, mZ, mC, stI, ini, mL, gI, gA, sI, sA, bi, gF, pF, kF, kT, kL, c2, mT, mR, f4, tsw, lsw, tgt, inR, Nat.reduceLT, Nat.reduceLeDiff, Nat.reduceEqDiff, Nat.reduceAdd, Nat.reduceSub, ↓reduceIte, Bool.false_eq_true, List.map_cons, List.map_nil, List.length_cons, List.length_nil, List.replicate, List.cons_append, List.nil_append, List.getElem?_cons_zero, List.getElem?_cons_succ, List.set, List.take_succ_cons, List.take_zero, List.drop_succ_cons, List.drop_zero, List.reverse_cons, List.reverse_nil, Int.reduceLE, Int.reduceLT, Int.reduceNeg, Int.reduceToNat, true_and, and_true, and_self, beq_iff_eq, Bool.and_eq_true, Bool.or_eq_true, or_false, false_or, or_true, true_or, and_false, false_and, hu_ho, ho_at, oc_at, oc_nc, oc_oc, adO_nc, rmO_nc, not_false_eq_true, Int.reduceEq, Int.pow_zero, Int.reducePow, Int.reduceMul, Int.reduceAdd, Int.reduceDiv, Int.reduceMod, Int.zero_add, Int.add_zero, Int.mul_one, Int.cast_ofNat_Int])
  · rw [if_neg h]
    refine vg_sound (fun _ _ => false) (fun m => m == 51) 60 _ _ _ _ _ _ ?_
    repeat' first | (with_reducible refine vT ?_ ?_; · omega) | (with_reducible refine vF ?_ ?_; · omega) | (with_reducible refine vI (fun _ => ?_) (fun _ => ?_)) | (simp (config := {maxSteps := 1000000}) (disch := (first | assumption | omega | (rw [hr_at]; assumption) | (rw [hr_at]; omega) | (repeat' first | assumption | decide | omega | refine FxB_nc ?_ ?_ | refine adO_B ?_ ?_ | refine rmO_B ?_ ?_))) only [f_X5_firstPayer, wg_0, wg_s, wK_none, wK_N, wK_C, wK_R, wQ_some, wQ_none, stR, mZ, mC, stI, ini, mL, gI, gA, sI, sA, bi, gF, pF, kF, kT, kL, c2, mT, mR, f4, tsw, lsw, tgt, inR, Nat.reduceLT, Nat.reduceLeDiff, Nat.reduceEqDiff, Nat.reduceAdd, Nat.reduceSub, ↓reduceIte, Bool.false_eq_true, List.map_cons, List.map_nil, List.length_cons, List.length_nil, List.replicate, List.cons_append, List.nil_append, List.getElem?_cons_zero, List.getElem?_cons_succ, List.set, List.take_succ_cons, List.take_zero, List.drop_succ_cons, List.drop_zero, List.reverse_cons, List.reverse_nil, Int.reduceLE, Int.reduceLT, Int.reduceNeg, Int.reduceToNat, true_and, and_true, and_self, beq_iff_eq, Bool.and_eq_true, Bool.or_eq_true, or_false, false_or, or_true, true_or, and_false, false_and, hu_ho, ho_at, oc_at, oc_nc, oc_oc, adO_nc, rmO_nc, not_false_eq_true, Int.reduceEq, Int.pow_zero, Int.reducePow, Int.reduceMul, Int.reduceAdd, Int.reduceDiv, Int.reduceMod, Int.zero_add, Int.add_zero, Int.mul_one, Int.cast_ofNat_Int])
def ssO (O : Of) (t b p z : Int) : Of := if ¬ z = b ∧ fb O t (8 + z).toNat = 1 ∧ fb O t (11 + z).toNat = 0 then oc (adO O t (11 + z).toNat) 0 (up (up (O 0) 9 (O 0 9 + 1)) 10 (O 0 10 + p)) else O
set_option maxHeartbeats 4000000 in
set_option maxRecDepth 100000 in
theorem ssO_B {O : Of} {t b p z : Int} (hB : FxB O) (hz : 0 ≤ z ∧ z < 3) : FxB (ssO O t b p z) := by
  unfold ssO
  split
  · exact FxB_nc (by decide) (adO_B hB (by omega))
  · exact hB
set_option maxHeartbeats 4000000 in
set_option maxRecDepth 100000 in
theorem ss_step {S : Hp} {k : Nat} {O : Of} {t b p z : Int} {Q : Option MV → Hp → Prop} (hB : FxB O) (ht : 0 ≤ t ∧ t < 600) (hb : -5 ≤ b ∧ b < 3) (hz : 0 ≤ z ∧ z < 3) (h : Wp 37 42 [some (.inr (k, 0)), some (.inl t), some (.inl b), some (.inl p), some (.inl (z + 1))] [] (ho S k (ssO O t b p z)) Q) : Wp 37 42 [some (.inr (k, 0)), some (.inl t), some (.inl b), some (.inl p), some (.inl z)] [] (ho S k O) Q := by
  have hp := pw3 hz
  have q1 := fb_01 O t (8 + z).toNat
  have q2 := fb_01 O t (11 + z).toNat
  have e0 : up (O 0) 9 (O 0 9 + 1) 10 = O 0 10 := up_ne (by decide)
  unfold ssO at h
  by_cases hc : ¬ z = b ∧ fb O t (8 + z).toNat = 1 ∧ fb O t (11 + z).toNat = 0
  · rw [if_pos hc] at h
    refine vg_cut (fun m pc => (m == 37 && pc == 42)) (fun m => m == 37) 100 _ _ _ _ _ _ ?_
    repeat' first | (with_reducible refine vT ?_ ?_; · omega) | (with_reducible refine vF ?_ ?_; · omega) | (with_reducible refine vI (fun _ => ?_) (fun _ => ?_)) | (simp (config := {maxSteps := 1000000}) (disch := (first | assumption | omega | (rw [hr_at]; assumption) | (rw [hr_at]; omega) | (repeat' first | assumption | decide | omega | refine FxB_nc ?_ ?_ | refine adO_B ?_ ?_ | refine rmO_B ?_ ?_))) only [f_X3_settleFirstDispute, wg_0, wg_s, wK_none, wK_N, wK_C, wK_R, wQ_some, wQ_none, stR, mZ, mC, stI, ini, mL, gI, gA, sI, sA, bi, gF, pF, kF, kT, kL, c2, mT, mR, f4, tsw, lsw, tgt, inR, Nat.reduceLT, Nat.reduceLeDiff, Nat.reduceEqDiff, Nat.reduceAdd, Nat.reduceSub, ↓reduceIte, Bool.false_eq_true, List.map_cons, List.map_nil, List.length_cons, List.length_nil, List.replicate, List.cons_append, List.nil_append, List.getElem?_cons_zero, List.getElem?_cons_succ, List.set, List.take_succ_cons, List.take_zero, List.drop_succ_cons, List.drop_zero, List.reverse_cons, List.reverse_nil, Int.reduceLE, Int.reduceLT, Int.reduceNeg, Int.reduceToNat, true_and, and_true, and_self, beq_iff_eq, Bool.and_eq_true, Bool.or_eq_true, or_false, false_or, or_true, true_or, and_false, false_and, hu_ho, ho_at, oc_at, oc_nc, oc_oc, adO_nc, rmO_nc, not_false_eq_true, Int.reduceEq, Int.pow_zero, Int.reducePow, Int.reduceMul, Int.reduceAdd, Int.reduceDiv, Int.reduceMod, Int.zero_add, Int.add_zero, Int.mul_one, Int.cast_ofNat_Int, c_hasP, c_hasC, c_addC, e0])
    exact h
  · rw [if_neg hc] at h
    refine vg_cut (fun m pc => (m == 37 && pc == 42)) (fun m => m == 37) 100 _ _ _ _ _ _ ?_
    repeat' first | (with_reducible refine vT ?_ ?_; · omega) | (with_reducible refine vF ?_ ?_; · omega) | (with_reducible refine vI (fun _ => ?_) (fun _ => ?_)) | (simp (config := {maxSteps := 1000000}) (disch := (first | assumption | omega | (rw [hr_at]; assumption) | (rw [hr_at]; omega) | (repeat' first | assumption | decide | omega | refine FxB_nc ?_ ?_ | refine adO_B ?_ ?_ | refine rmO_B ?_ ?_))) only [f_X3_settleFirstDispute, wg_0, wg_s, wK_none, wK_N, wK_C, wK_R, wQ_some, wQ_none, stR, mZ, mC, stI, ini, mL, gI, gA, sI, sA, bi, gF, pF, kF, kT, kL, c2, mT, mR, f4, tsw, lsw, tgt, inR, Nat.reduceLT, Nat.reduceLeDiff, Nat.reduceEqDiff, Nat.reduceAdd, Nat.reduceSub, ↓reduceIte, Bool.false_eq_true, List.map_cons, List.map_nil, List.length_cons, List.length_nil, List.replicate, List.cons_append, List.nil_append, List.getElem?_cons_zero, List.getElem?_cons_succ, List.set, List.take_succ_cons, List.take_zero, List.drop_succ_cons, List.drop_zero, List.reverse_cons, List.reverse_nil, Int.reduceLE, Int.reduceLT, Int.reduceNeg, Int.reduceToNat, true_and, and_true, and_self, beq_iff_eq, Bool.and_eq_true, Bool.or_eq_true, or_false, false_or, or_true, true_or, and_false, false_and, hu_ho, ho_at, oc_at, oc_nc, oc_oc, adO_nc, rmO_nc, not_false_eq_true, Int.reduceEq, Int.pow_zero, Int.reducePow, Int.reduceMul, Int.reduceAdd, Int.reduceDiv, Int.reduceMod, Int.zero_add, Int.add_zero, Int.mul_one, Int.cast_ofNat_Int, c_hasP, c_hasC, c_addC, e0])
    all_goals exact h
set_option maxHeartbeats 4000000 in
set_option maxRecDepth 100000 in
theorem ss_end {S : Hp} {k : Nat} {O : Of} {t b p : Int} {Q : Option MV → Hp → Prop} (h : Q none (ho S k O)) : Wp 37 42 [some (.inr (k, 0)), some (.inl t), some (.inl b), some (.inl p), some (.inl 3)] [] (ho S k O) Q := by
  refine vg_cut (fun m pc => (m == 37 && pc == 42)) (fun m => m == 37) 60 _ _ _ _ _ _ ?_
  repeat' first | (with_reducible refine vT ?_ ?_; · omega) | (with_reducible refine vF ?_ ?_; · omega) | (with_reducible refine vI (fun _ => ?_) (fun _ => ?_)) | (simp (config := {maxSteps := 1000000}) (disch := (first | assumption | omega | (rw [hr_at]; assumption) | (rw [hr_at]; omega) | (repeat' first | assumption | decide | omega | refine FxB_nc ?_ ?_ | refine adO_B ?_ ?_ | refine rmO_B ?_ ?_))) only [f_X3_settleFirstDispute, wg_0, wg_s, wK_none, wK_N, wK_C, wK_R, wQ_some, wQ_none, stR, mZ, mC, stI, ini, mL, gI, gA, sI, sA, bi, gF, pF, kF, kT, kL, c2, mT, mR, f4, tsw, lsw, tgt, inR, Nat.reduceLT, Nat.reduceLeDiff, Nat.reduceEqDiff, Nat.reduceAdd, Nat.reduceSub, ↓reduceIte, Bool.false_eq_true, List.map_cons, List.map_nil, List.length_cons, List.length_nil, List.replicate, List.cons_append, List.nil_append, List.getElem?_cons_zero, List.getElem?_cons_succ, List.set, List.take_succ_cons, List.take_zero, List.drop_succ_cons, List.drop_zero, List.reverse_cons, List.reverse_nil, Int.reduceLE, Int.reduceLT, Int.reduceNeg, Int.reduceToNat, true_and, and_true, and_self, beq_iff_eq, Bool.and_eq_true, Bool.or_eq_true, or_false, false_or, or_true, true_or, and_false, false_and, hu_ho, ho_at, oc_at, oc_nc, oc_oc, adO_nc, rmO_nc, not_false_eq_true, Int.reduceEq, Int.pow_zero, Int.reducePow, Int.reduceMul, Int.reduceAdd, Int.reduceDiv, Int.reduceMod, Int.zero_add, Int.add_zero, Int.mul_one, Int.cast_ofNat_Int])
  exact h
def st1O (O : Of) : Of := rmO (dfO O) (O 22 0) 2
def ss3O (O : Of) (t b p : Int) : Of := ssO (ssO (ssO O t b p 0) t b p 1) t b p 2
def stO (O : Of) : Of := if O 21 0 = 0 then O else ss3O (st1O O) (O 22 0) (fpO O (O 22 0)) (pzO (st1O O) (O 22 0))
set_option maxHeartbeats 4000000 in
set_option maxRecDepth 100000 in
theorem dfO_nc {O : Of} {c : Nat} (h : ¬ c = 21 ∧ ¬ c = 22) : dfO O c = O c := by
  unfold dfO
  rw [oc_nc h.1, oc_nc h.2]
set_option maxHeartbeats 4000000 in
set_option maxRecDepth 100000 in
theorem st1O_nc {O : Of} {c : Nat} (h : ¬ c = 21 ∧ ¬ c = 22 ∧ ¬ c = 3) : st1O O c = O c := by
  unfold st1O
  rw [rmO_nc h.2.2, dfO_nc ⟨h.1, h.2.1⟩]
def StP (O : Of) : Prop := FxB O ∧ WnB O ∧ (∀ t : Int, 0 ≤ t → t < 600 → 0 ≤ O 4 t ∧ O 4 t < 1000000) ∧ (0 ≤ O 21 0 ∧ O 21 0 ≤ 114) ∧ (O 21 0 = 0 ∨ (0 ≤ O 22 0 ∧ O 22 0 < 600))
set_option maxHeartbeats 4000000 in
set_option maxRecDepth 100000 in
theorem c_settle {S : Hp} {k : Nat} {O : Of} (hP : StP O) (Q : Option MV → Hp → Prop) : Wc 37 [.inr (k, 0)] (ho S k O) Q = Q none (ho S k (stO O)) := by
  refine Wc_eq ?_ Q
  unfold Wc stO
  obtain ⟨hB, hW, h4, h21, h22⟩ := hP
  by_cases h : O 21 0 = 0
  · rw [if_pos h]
    refine vg_sound (fun _ _ => false) (fun m => m == 37 || m == 3) 60 _ _ _ _ _ _ ?_
    repeat' first | (with_reducible refine vT ?_ ?_; · omega) | (with_reducible refine vF ?_ ?_; · omega) | (with_reducible refine vI (fun _ => ?_) (fun _ => ?_)) | (simp (config := {maxSteps := 1000000}) (disch := (first | assumption | omega | (rw [hr_at]; assumption) | (rw [hr_at]; omega) | (repeat' first | assumption | decide | omega | refine FxB_nc ?_ ?_ | refine adO_B ?_ ?_ | refine rmO_B ?_ ?_))) only [f_X3_settleFirstDispute, f_X0_takeFirst, wg_0, wg_s, wK_none, wK_N, wK_C, wK_R, wQ_some, wQ_none, stR, mZ, mC, stI, ini, mL, gI, gA, sI, sA, bi, gF, pF, kF, kT, kL, c2, mT, mR, f4, tsw, lsw, tgt, inR, Nat.reduceLT, Nat.reduceLeDiff, Nat.reduceEqDiff, Nat.reduceAdd, Nat.reduceSub, ↓reduceIte, Bool.false_eq_true, List.map_cons, List.map_nil, List.length_cons, List.length_nil, List.replicate, List.cons_append, List.nil_append, List.getElem?_cons_zero, List.getElem?_cons_succ, List.set, List.take_succ_cons, List.take_zero, List.drop_succ_cons, List.drop_zero, List.reverse_cons, List.reverse_nil, Int.reduceLE, Int.reduceLT, Int.reduceNeg, Int.reduceToNat, true_and, and_true, and_self, beq_iff_eq, Bool.and_eq_true, Bool.or_eq_true, or_false, false_or, or_true, true_or, and_false, false_and, hu_ho, ho_at, oc_at, oc_nc, oc_oc, adO_nc, rmO_nc, not_false_eq_true, Int.reduceEq, Int.pow_zero, Int.reducePow, Int.reduceMul, Int.reduceAdd, Int.reduceDiv, Int.reduceMod, Int.zero_add, Int.add_zero, Int.mul_one, Int.cast_ofNat_Int])
  · rw [if_neg h]
    have ht : 0 ≤ O 22 0 ∧ O 22 0 < 600 := by omega
    have hBd : FxB (dfO O) := fun s h1 h2 => by rw [dfO_nc (by decide)]; exact hB s h1 h2
    have hB1 : FxB (st1O O) := rmO_B hBd (by decide)
    have hW1 : WnB (st1O O) := by
      unfold WnB
      rw [st1O_nc (by decide), st1O_nc (by decide)]
      exact hW
    have r1 := fun Q => c_takeDispute (S := S) (k := k) (O := O) (by omega) Q
    have r2 := fun Q => c_remove4 (S := S) (k := k) hBd ht Q
    have r3 := fun Q => c_firstPayer (S := S) (k := k) (O := st1O O) (t := O 22 0) (by rw [st1O_nc (by decide)]; exact h4 _ ht.1 ht.2) ht Q
    have e3 : fpO (st1O O) (O 22 0) = fpO O (O 22 0) := by unfold fpO; rw [st1O_nc (by decide)]
    rw [e3] at r3
    have r4 := fun Q => c_prizeOf (S := S) (k := k) (O := st1O O) (t := O 22 0) hB1 hW1 ht Q
    have e4 : rmO (dfO O) (O 22 0) 2 = st1O O := rfl
    rw [e4] at r2
    have hb : -5 ≤ fpO O (O 22 0) ∧ fpO O (O 22 0) < 3 := by unfold fpO; split <;> omega
    refine vg_sound (fun m pc => (m == 37 && pc == 42)) (fun m => m == 37) 60 _ _ _ _ _ _ ?_
    repeat' first | (with_reducible refine vT ?_ ?_; · omega) | (with_reducible refine vF ?_ ?_; · omega) | (with_reducible refine vI (fun _ => ?_) (fun _ => ?_)) | (simp (config := {maxSteps := 1000000}) (disch := (first | assumption | omega | (rw [hr_at]; assumption) | (rw [hr_at]; omega) | (repeat' first | assumption | decide | omega | refine FxB_nc ?_ ?_ | refine adO_B ?_ ?_ | refine rmO_B ?_ ?_))) only [f_X3_settleFirstDispute, wg_0, wg_s, wK_none, wK_N, wK_C, wK_R, wQ_some, wQ_none, stR, mZ, mC, stI, ini, mL, gI, gA, sI, sA, bi, gF, pF, kF, kT, kL, c2, mT, mR, f4, tsw, lsw, tgt, inR, Nat.reduceLT, Nat.reduceLeDiff, Nat.reduceEqDiff, Nat.reduceAdd, Nat.reduceSub, ↓reduceIte, Bool.false_eq_true, List.map_cons, List.map_nil, List.length_cons, List.length_nil, List.replicate, List.cons_append, List.nil_append, List.getElem?_cons_zero, List.getElem?_cons_succ, List.set, List.take_succ_cons, List.take_zero, List.drop_succ_cons, List.drop_zero, List.reverse_cons, List.reverse_nil, Int.reduceLE, Int.reduceLT, Int.reduceNeg, Int.reduceToNat, true_and, and_true, and_self, beq_iff_eq, Bool.and_eq_true, Bool.or_eq_true, or_false, false_or, or_true, true_or, and_false, false_and, hu_ho, ho_at, oc_at, oc_nc, oc_oc, adO_nc, rmO_nc, not_false_eq_true, Int.reduceEq, Int.pow_zero, Int.reducePow, Int.reduceMul, Int.reduceAdd, Int.reduceDiv, Int.reduceMod, Int.zero_add, Int.add_zero, Int.mul_one, Int.cast_ofNat_Int, r1, r2, r3, r4])
    refine ss_step hB1 ht hb (by omega) ?_
    refine ss_step (z := 1) (ssO_B hB1 (by omega)) ht hb (by omega) ?_
    refine ss_step (z := 2) (ssO_B (ssO_B hB1 (by omega)) (by omega)) ht hb (by omega) ?_
    exact ss_end ⟨rfl, rfl⟩
def cw1 (O : Of) (w : Int) : Of := if O 12 w = -5 then O else oc O 13 (up (O 13) w (O 13 w + 1))
set_option maxHeartbeats 4000000 in
set_option maxRecDepth 100000 in
theorem cw_step {S : Hp} {k : Nat} {O : Of} {z : Int} {Q : Option MV → Hp → Prop} (h12 : -5 ≤ O 12 z ∧ O 12 z < 600) (hz : 0 ≤ z ∧ z < 3) (h : Wp 60 2 [some (.inr (k, 9)), some (.inl (z + 1))] [] (ho S k (cw1 O z)) Q) : Wp 60 2 [some (.inr (k, 9)), some (.inl z)] [] (ho S k O) Q := by
  unfold cw1 at h
  by_cases hc : O 12 z = -5
  · rw [if_pos hc] at h
    refine vg_cut (fun m pc => (m == 60 && pc == 2)) (fun m => m == 60) 60 _ _ _ _ _ _ ?_
    repeat' first | (with_reducible refine vT ?_ ?_; · omega) | (with_reducible refine vF ?_ ?_; · omega) | (with_reducible refine vI (fun _ => ?_) (fun _ => ?_)) | (simp (config := {maxSteps := 1000000}) (disch := (first | assumption | omega | (rw [hr_at]; assumption) | (rw [hr_at]; omega) | (repeat' first | assumption | decide | omega | refine FxB_nc ?_ ?_ | refine adO_B ?_ ?_ | refine rmO_B ?_ ?_))) only [f_X6_countWaiting, wg_0, wg_s, wK_none, wK_N, wK_C, wK_R, wQ_some, wQ_none, stR, mZ, mC, stI, ini, mL, gI, gA, sI, sA, bi, gF, pF, kF, kT, kL, c2, mT, mR, f4, tsw, lsw, tgt, inR, Nat.reduceLT, Nat.reduceLeDiff, Nat.reduceEqDiff, Nat.reduceAdd, Nat.reduceSub, ↓reduceIte, Bool.false_eq_true, List.map_cons, List.map_nil, List.length_cons, List.length_nil, List.replicate, List.cons_append, List.nil_append, List.getElem?_cons_zero, List.getElem?_cons_succ, List.set, List.take_succ_cons, List.take_zero, List.drop_succ_cons, List.drop_zero, List.reverse_cons, List.reverse_nil, Int.reduceLE, Int.reduceLT, Int.reduceNeg, Int.reduceToNat, true_and, and_true, and_self, beq_iff_eq, Bool.and_eq_true, Bool.or_eq_true, or_false, false_or, or_true, true_or, and_false, false_and, hu_ho, ho_at, oc_at, oc_nc, oc_oc, adO_nc, rmO_nc, not_false_eq_true, Int.reduceEq, Int.pow_zero, Int.reducePow, Int.reduceMul, Int.reduceAdd, Int.reduceDiv, Int.reduceMod, Int.zero_add, Int.add_zero, Int.mul_one, Int.cast_ofNat_Int])
    exact h
  · rw [if_neg hc] at h
    refine vg_cut (fun m pc => (m == 60 && pc == 2)) (fun m => m == 60) 60 _ _ _ _ _ _ ?_
    repeat' first | (with_reducible refine vT ?_ ?_; · omega) | (with_reducible refine vF ?_ ?_; · omega) | (with_reducible refine vI (fun _ => ?_) (fun _ => ?_)) | (simp (config := {maxSteps := 1000000}) (disch := (first | assumption | omega | (rw [hr_at]; assumption) | (rw [hr_at]; omega) | (repeat' first | assumption | decide | omega | refine FxB_nc ?_ ?_ | refine adO_B ?_ ?_ | refine rmO_B ?_ ?_))) only [f_X6_countWaiting, wg_0, wg_s, wK_none, wK_N, wK_C, wK_R, wQ_some, wQ_none, stR, mZ, mC, stI, ini, mL, gI, gA, sI, sA, bi, gF, pF, kF, kT, kL, c2, mT, mR, f4, tsw, lsw, tgt, inR, Nat.reduceLT, Nat.reduceLeDiff, Nat.reduceEqDiff, Nat.reduceAdd, Nat.reduceSub, ↓reduceIte, Bool.false_eq_true, List.map_cons, List.map_nil, List.length_cons, List.length_nil, List.replicate, List.cons_append, List.nil_append, List.getElem?_cons_zero, List.getElem?_cons_succ, List.set, List.take_succ_cons, List.take_zero, List.drop_succ_cons, List.drop_zero, List.reverse_cons, List.reverse_nil, Int.reduceLE, Int.reduceLT, Int.reduceNeg, Int.reduceToNat, true_and, and_true, and_self, beq_iff_eq, Bool.and_eq_true, Bool.or_eq_true, or_false, false_or, or_true, true_or, and_false, false_and, hu_ho, ho_at, oc_at, oc_nc, oc_oc, adO_nc, rmO_nc, not_false_eq_true, Int.reduceEq, Int.pow_zero, Int.reducePow, Int.reduceMul, Int.reduceAdd, Int.reduceDiv, Int.reduceMod, Int.zero_add, Int.add_zero, Int.mul_one, Int.cast_ofNat_Int])
    exact h
set_option maxHeartbeats 4000000 in
set_option maxRecDepth 100000 in
theorem cw_end {S : Hp} {k : Nat} {O : Of} {Q : Option MV → Hp → Prop} (h : Q none (ho S k O)) : Wp 60 2 [some (.inr (k, 9)), some (.inl 3)] [] (ho S k O) Q := by
  refine vg_cut (fun m pc => (m == 60 && pc == 2)) (fun m => m == 60) 60 _ _ _ _ _ _ ?_
  repeat' first | (with_reducible refine vT ?_ ?_; · omega) | (with_reducible refine vF ?_ ?_; · omega) | (with_reducible refine vI (fun _ => ?_) (fun _ => ?_)) | (simp (config := {maxSteps := 1000000}) (disch := (first | assumption | omega | (rw [hr_at]; assumption) | (rw [hr_at]; omega) | (repeat' first | assumption | decide | omega | refine FxB_nc ?_ ?_ | refine adO_B ?_ ?_ | refine rmO_B ?_ ?_))) only [f_X6_countWaiting, wg_0, wg_s, wK_none, wK_N, wK_C, wK_R, wQ_some, wQ_none, stR, mZ, mC, stI, ini, mL, gI, gA, sI, sA, bi, gF, pF, kF, kT, kL, c2, mT, mR, f4, tsw, lsw, tgt, inR, Nat.reduceLT, Nat.reduceLeDiff, Nat.reduceEqDiff, Nat.reduceAdd, Nat.reduceSub, ↓reduceIte, Bool.false_eq_true, List.map_cons, List.map_nil, List.length_cons, List.length_nil, List.replicate, List.cons_append, List.nil_append, List.getElem?_cons_zero, List.getElem?_cons_succ, List.set, List.take_succ_cons, List.take_zero, List.drop_succ_cons, List.drop_zero, List.reverse_cons, List.reverse_nil, Int.reduceLE, Int.reduceLT, Int.reduceNeg, Int.reduceToNat, true_and, and_true, and_self, beq_iff_eq, Bool.and_eq_true, Bool.or_eq_true, or_false, false_or, or_true, true_or, and_false, false_and, hu_ho, ho_at, oc_at, oc_nc, oc_oc, adO_nc, rmO_nc, not_false_eq_true, Int.reduceEq, Int.pow_zero, Int.reducePow, Int.reduceMul, Int.reduceAdd, Int.reduceDiv, Int.reduceMod, Int.zero_add, Int.add_zero, Int.mul_one, Int.cast_ofNat_Int])
  exact h
set_option maxHeartbeats 4000000 in
set_option maxRecDepth 100000 in
theorem cw1_nc {O : Of} {w : Int} {c : Nat} (h : ¬ c = 13) : cw1 O w c = O c := by
  unfold cw1
  split
  · rfl
  · exact oc_nc h
def cwO (O : Of) : Of := cw1 (cw1 (cw1 O 0) 1) 2
set_option maxHeartbeats 4000000 in
set_option maxRecDepth 100000 in
theorem c_countWaiting {S : Hp} {k : Nat} {O : Of} (h12 : ∀ w : Int, 0 ≤ w → w < 3 → -5 ≤ O 12 w ∧ O 12 w < 600) (Q : Option MV → Hp → Prop) : Wc 60 [.inr (k, 9)] (ho S k O) Q = Q none (ho S k (cwO O)) := by
  refine Wc_eq ?_ Q
  unfold Wc
  refine vg_sound (fun m pc => (m == 60 && pc == 2)) (fun m => m == 60) 20 _ _ _ _ _ _ ?_
  repeat' first | (with_reducible refine vT ?_ ?_; · omega) | (with_reducible refine vF ?_ ?_; · omega) | (with_reducible refine vI (fun _ => ?_) (fun _ => ?_)) | (simp (config := {maxSteps := 1000000}) (disch := (first | assumption | omega | (rw [hr_at]; assumption) | (rw [hr_at]; omega) | (repeat' first | assumption | decide | omega | refine FxB_nc ?_ ?_ | refine adO_B ?_ ?_ | refine rmO_B ?_ ?_))) only [f_X6_countWaiting, wg_0, wg_s, wK_none, wK_N, wK_C, wK_R, wQ_some, wQ_none, stR, mZ, mC, stI, ini, mL, gI, gA, sI, sA, bi, gF, pF, kF, kT, kL, c2, mT, mR, f4, tsw, lsw, tgt, inR, Nat.reduceLT, Nat.reduceLeDiff, Nat.reduceEqDiff, Nat.reduceAdd, Nat.reduceSub, ↓reduceIte, Bool.false_eq_true, List.map_cons, List.map_nil, List.length_cons, List.length_nil, List.replicate, List.cons_append, List.nil_append, List.getElem?_cons_zero, List.getElem?_cons_succ, List.set, List.take_succ_cons, List.take_zero, List.drop_succ_cons, List.drop_zero, List.reverse_cons, List.reverse_nil, Int.reduceLE, Int.reduceLT, Int.reduceNeg, Int.reduceToNat, true_and, and_true, and_self, beq_iff_eq, Bool.and_eq_true, Bool.or_eq_true, or_false, false_or, or_true, true_or, and_false, false_and, hu_ho, ho_at, oc_at, oc_nc, oc_oc, adO_nc, rmO_nc, not_false_eq_true, Int.reduceEq, Int.pow_zero, Int.reducePow, Int.reduceMul, Int.reduceAdd, Int.reduceDiv, Int.reduceMod, Int.zero_add, Int.add_zero, Int.mul_one, Int.cast_ofNat_Int])
  refine cw_step (h12 0 (by omega) (by omega)) (by omega) ?_
  refine cw_step (z := 1) (by rw [cw1_nc (by decide)]; exact h12 1 (by omega) (by omega)) (by omega) ?_
  refine cw_step (z := 2) (by rw [cw1_nc (by decide), cw1_nc (by decide)]; exact h12 2 (by omega) (by omega)) (by omega) ?_
  exact cw_end ⟨rfl, rfl⟩
