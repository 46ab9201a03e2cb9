/-! THE REFERENCE's row: what is counted -/
set_option maxHeartbeats 4000000 in
set_option maxRecDepth 100000 in
theorem m_sumOf {S : Hp} {f : Int} (hf : 0 ≤ f ∧ f < 15) (Q : Option MV → Hp → Prop) : Wc 145 [.inr (0, 30), .inl f] S Q = Q (some (.inl (S 0 31 (8 + f) + S 0 31 (23 + f) + S 0 31 (38 + f)))) S := by
  refine Wc_eq ?_ Q
  unfold Wc
  refine vg_sound (fun _ _ => false) (fun m => m == 145 || m == 117) 60 _ _ _ _ _ _ ?_
  repeat' first | (with_reducible refine vT ?_ ?_; · omega) | (with_reducible refine vF ?_ ?_; · omega) | (with_reducible refine vI (fun _ => ?_) (fun _ => ?_)) | (simp (config := {maxSteps := 1000000}) (disch := (first | assumption | omega | (rw [hr_at]; assumption) | (rw [hr_at]; omega))) only [f_X8_sumOf, f_X8_at, wg_0, wg_s, wK_none, wK_N, wK_C, wK_R, wQ_some, wQ_none, stR, mZ, mC, stI, ini, mL, gI, gA, sI, sA, bi, gF, pF, kF, kT, kL, c2, mT, mR, f4, tsw, lsw, tgt, inR, Nat.reduceLT, Nat.reduceLeDiff, Nat.reduceEqDiff, Nat.reduceAdd, Nat.reduceSub, ↓reduceIte, Bool.false_eq_true, List.map_cons, List.map_nil, List.length_cons, List.length_nil, List.replicate, List.cons_append, List.nil_append, List.getElem?_cons_zero, List.getElem?_cons_succ, List.set, List.take_succ_cons, List.take_zero, List.drop_succ_cons, List.drop_zero, List.reverse_cons, List.reverse_nil, Int.reduceLE, Int.reduceLT, Int.reduceNeg, Int.reduceToNat, true_and, and_true, and_self, beq_iff_eq, Bool.and_eq_true, Bool.or_eq_true, or_false, false_or, or_true, true_or, and_false, false_and, hu_hr, hr_hr, hr_at, hr_nc, not_false_eq_true, Int.reduceEq, Int.pow_zero, Int.reducePow, Int.reduceMul, Int.reduceAdd, Int.reduceDiv, Int.reduceMod, Int.zero_add, Int.add_zero, Int.mul_one])
def pyI (M : Int → Int) (w t : Int) : Int := if 0 < M (2033 + 600 * w + t) then 1 else 0
def pyC (M : Int → Int) (t : Int) : Int := sm (fun k => pyI M (k : Int) t) 3
set_option maxHeartbeats 4000000 in
set_option maxRecDepth 100000 in
theorem py_01 (M : Int → Int) (w t : Int) : 0 ≤ pyI M w t ∧ pyI M w t ≤ 1 := by
  unfold pyI
  split <;> omega
set_option maxHeartbeats 4000000 in
set_option maxRecDepth 100000 in
theorem pyC_b (M : Int → Int) (t : Int) : 0 ≤ pyC M t ∧ pyC M t ≤ 3 := by
  have h := sm_b (f := fun k => pyI M (k : Int) t) (c := 1) (by omega) 3 (fun k _ => py_01 M k t)
  unfold pyC
  omega
set_option maxHeartbeats 4000000 in
set_option maxRecDepth 100000 in
theorem py_step {S : Hp} {z t x : Int} {Q : Option MV → Hp → Prop} (hP : PdB (S 0 31)) (ht : 0 ≤ t ∧ t < 600) (hz : 0 ≤ z ∧ z < 3) (h : Wp 147 4 [some (.inr (0, 30)), some (.inl t), some (.inl (x + pyI (S 0 31) z t)), some (.inl (z + 1))] [] S Q) : Wp 147 4 [some (.inr (0, 30)), some (.inl t), some (.inl x), some (.inl z)] [] S Q := by
  have hp := hP z t hz.1 hz.2 ht.1 ht.2
  unfold pyI at h
  refine vg_cut (fun m pc => (m == 147 && pc == 4)) (fun m => m == 147 || m == 120) 40 _ _ _ _ _ _ ?_
  repeat' first | (with_reducible refine vT ?_ ?_; · omega) | (with_reducible refine vF ?_ ?_; · omega) | (with_reducible refine vI (fun _ => ?_) (fun _ => ?_)) | (simp (config := {maxSteps := 1000000}) (disch := (first | assumption | omega | (rw [hr_at]; assumption) | (rw [hr_at]; omega))) only [f_X8_payments, f_X8_paidAt, wg_0, wg_s, wK_none, wK_N, wK_C, wK_R, wQ_some, wQ_none, stR, mZ, mC, stI, ini, mL, gI, gA, sI, sA, bi, gF, pF, kF, kT, kL, c2, mT, mR, f4, tsw, lsw, tgt, inR, Nat.reduceLT, Nat.reduceLeDiff, Nat.reduceEqDiff, Nat.reduceAdd, Nat.reduceSub, ↓reduceIte, Bool.false_eq_true, List.map_cons, List.map_nil, List.length_cons, List.length_nil, List.replicate, List.cons_append, List.nil_append, List.getElem?_cons_zero, List.getElem?_cons_succ, List.set, List.take_succ_cons, List.take_zero, List.drop_succ_cons, List.drop_zero, List.reverse_cons, List.reverse_nil, Int.reduceLE, Int.reduceLT, Int.reduceNeg, Int.reduceToNat, true_and, and_true, and_self, beq_iff_eq, Bool.and_eq_true, Bool.or_eq_true, or_false, false_or, or_true, true_or, and_false, false_and, hu_hr, hr_hr, hr_at, hr_nc, not_false_eq_true, Int.reduceEq, Int.pow_zero, Int.reducePow, Int.reduceMul, Int.reduceAdd, Int.reduceDiv, Int.reduceMod, Int.zero_add, Int.add_zero, Int.mul_one])
  all_goals (first | rw [if_pos (by omega)] at h | (rw [if_neg (by omega), Int.add_zero] at h))
  all_goals exact h
set_option maxHeartbeats 4000000 in
set_option maxRecDepth 100000 in
theorem py_end {S : Hp} {t x : Int} {Q : Option MV → Hp → Prop} (h : Q (some (.inl x)) S) : Wp 147 4 [some (.inr (0, 30)), some (.inl t), some (.inl x), some (.inl 3)] [] S Q := by
  refine vg_cut (fun m pc => (m == 147 && pc == 4)) (fun m => m == 147) 40 _ _ _ _ _ _ ?_
  repeat' first | (with_reducible refine vT ?_ ?_; · omega) | (with_reducible refine vF ?_ ?_; · omega) | (with_reducible refine vI (fun _ => ?_) (fun _ => ?_)) | (simp (config := {maxSteps := 1000000}) only [f_X8_payments, wg_0, wg_s, wK_none, wK_N, wK_C, wK_R, wQ_some, wQ_none, stR, mZ, mC, stI, ini, mL, gI, gA, sI, sA, bi, gF, pF, kF, kT, kL, c2, mT, mR, f4, tsw, lsw, tgt, inR, Nat.reduceLT, Nat.reduceLeDiff, Nat.reduceEqDiff, Nat.reduceAdd, Nat.reduceSub, ↓reduceIte, Bool.false_eq_true, List.map_cons, List.map_nil, List.length_cons, List.length_nil, List.replicate, List.cons_append, List.nil_append, List.getElem?_cons_zero, List.getElem?_cons_succ, List.set, List.take_succ_cons, List.take_zero, List.drop_succ_cons, List.drop_zero, List.reverse_cons, List.reverse_nil, Int.reduceLE, Int.reduceLT, Int.reduceNeg, Int.reduceToNat, true_and, and_true, and_self, beq_iff_eq, Bool.and_eq_true, Bool.or_eq_true, or_false, false_or, or_true, true_or, and_false, false_and, hu_hr, hr_hr, hr_at, hr_nc, not_false_eq_true, Int.reduceEq, Int.pow_zero, Int.reducePow, Int.reduceMul, Int.reduceAdd, Int.reduceDiv, Int.reduceMod, Int.zero_add, Int.add_zero, Int.mul_one])
  exact h
set_option maxHeartbeats 4000000 in
set_option maxRecDepth 100000 in
theorem m_payments {S : Hp} {t : Int} (hP : PdB (S 0 31)) (ht : 0 ≤ t ∧ t < 600) (Q : Option MV → Hp → Prop) : Wc 147 [.inr (0, 30), .inl t] S Q = Q (some (.inl (pyC (S 0 31) t))) S := by
  refine Wc_eq ?_ Q
  unfold Wc
  refine vg_sound (fun m pc => (m == 147 && pc == 4)) (fun m => m == 147) 10 _ _ _ _ _ _ ?_
  repeat' first | (with_reducible refine vT ?_ ?_; · omega) | (with_reducible refine vF ?_ ?_; · omega) | (with_reducible refine vI (fun _ => ?_) (fun _ => ?_)) | (simp (config := {maxSteps := 1000000}) only [f_X8_payments, wg_0, wg_s, wK_none, wK_N, wK_C, wK_R, wQ_some, wQ_none, stR, mZ, mC, stI, ini, mL, gI, gA, sI, sA, bi, gF, pF, kF, kT, kL, c2, mT, mR, f4, tsw, lsw, tgt, inR, Nat.reduceLT, Nat.reduceLeDiff, Nat.reduceEqDiff, Nat.reduceAdd, Nat.reduceSub, ↓reduceIte, Bool.false_eq_true, List.map_cons, List.map_nil, List.length_cons, List.length_nil, List.replicate, List.cons_append, List.nil_append, List.getElem?_cons_zero, List.getElem?_cons_succ, List.set, List.take_succ_cons, List.take_zero, List.drop_succ_cons, List.drop_zero, List.reverse_cons, List.reverse_nil, Int.reduceLE, Int.reduceLT, Int.reduceNeg, Int.reduceToNat, true_and, and_true, and_self, beq_iff_eq, Bool.and_eq_true, Bool.or_eq_true, or_false, false_or, or_true, true_or, and_false, false_and, hu_hr, hr_hr, hr_at, hr_nc, not_false_eq_true, Int.reduceEq, Int.pow_zero, Int.reducePow, Int.reduceMul, Int.reduceAdd, Int.reduceDiv, Int.reduceMod, Int.zero_add, Int.add_zero, Int.mul_one])
  obtain ⟨N, hN⟩ : ∃ N : Nat, N = 3 := ⟨_, rfl⟩
  have hs : pyC (S 0 31) t = sm (fun k => pyI (S 0 31) (k : Int) t) N := by rw [hN]; rfl
  rw [hs]
  refine wp_for (fun j => [some (.inr (0, 30)), some (.inl t), some (.inl (sm (fun k => pyI (S 0 31) (k : Int) t) j)), some (.inl (j : Int))]) (fun _ => S) N (by simp [sm]) rfl (fun j hj h => ?_) ?_
  · refine py_step hP ht (by omega) ?_
    rw [sm_s, Int.natCast_add] at h
    exact h
  · have e : (N : Int) = 3 := by omega
    rw [e]
    exact py_end ⟨rfl, rfl⟩
def ptI (M : Int → Int) (t : Int) : Int := if 1 < pyC M t then 1 else 0
def ptC (M : Int → Int) : Int := sm (fun k => ptI M (k : Int)) 600
set_option maxHeartbeats 4000000 in
set_option maxRecDepth 100000 in
theorem pt_step {S : Hp} {z x : Int} {Q : Option MV → Hp → Prop} (hP : PdB (S 0 31)) (hz : 0 ≤ z ∧ z < 600) (h : Wp 148 4 [some (.inr (0, 30)), some (.inl (x + ptI (S 0 31) z)), some (.inl (z + 1))] [] S Q) : Wp 148 4 [some (.inr (0, 30)), some (.inl x), some (.inl z)] [] S Q := by
  have hb := pyC_b (S 0 31) z
  unfold ptI at h
  refine vg_cut (fun m pc => (m == 148 && pc == 4)) (fun m => m == 148) 40 _ _ _ _ _ _ ?_
  repeat' first | (with_reducible refine vT ?_ ?_; · omega) | (with_reducible refine vF ?_ ?_; · omega) | (with_reducible refine vI (fun _ => ?_) (fun _ => ?_)) | (simp (config := {maxSteps := 1000000}) (disch := (first | assumption | omega | (rw [hr_at]; assumption) | (rw [hr_at]; omega))) only [f_X8_paidTwice, wg_0, wg_s, wK_none, wK_N, wK_C, wK_R, wQ_some, wQ_none, stR, mZ, mC, stI, ini, mL, gI, gA, sI, sA, bi, gF, pF, kF, kT, kL, c2, mT, mR, f4, tsw, lsw, tgt, inR, Nat.reduceLT, Nat.reduceLeDiff, Nat.reduceEqDiff, Nat.reduceAdd, Nat.reduceSub, ↓reduceIte, Bool.false_eq_true, List.map_cons, List.map_nil, List.length_cons, List.length_nil, List.replicate, List.cons_append, List.nil_append, List.getElem?_cons_zero, List.getElem?_cons_succ, List.set, List.take_succ_cons, List.take_zero, List.drop_succ_cons, List.drop_zero, List.reverse_cons, List.reverse_nil, Int.reduceLE, Int.reduceLT, Int.reduceNeg, Int.reduceToNat, true_and, and_true, and_self, beq_iff_eq, Bool.and_eq_true, Bool.or_eq_true, or_false, false_or, or_true, true_or, and_false, false_and, hu_hr, hr_hr, hr_at, hr_nc, not_false_eq_true, Int.reduceEq, Int.pow_zero, Int.reducePow, Int.reduceMul, Int.reduceAdd, Int.reduceDiv, Int.reduceMod, Int.zero_add, Int.add_zero, Int.mul_one, m_payments, hP])
  all_goals (first | rw [if_pos (by omega)] at h | (rw [if_neg (by omega), Int.add_zero] at h))
  all_goals exact h
set_option maxHeartbeats 4000000 in
set_option maxRecDepth 100000 in
theorem pt_end {S : Hp} {x : Int} {Q : Option MV → Hp → Prop} (h : Q (some (.inl x)) S) : Wp 148 4 [some (.inr (0, 30)), some (.inl x), some (.inl 600)] [] S Q := by
  refine vg_cut (fun m pc => (m == 148 && pc == 4)) (fun m => m == 148) 40 _ _ _ _ _ _ ?_
  repeat' first | (with_reducible refine vT ?_ ?_; · omega) | (with_reducible refine vF ?_ ?_; · omega) | (with_reducible refine vI (fun _ => ?_) (fun _ => ?_)) | (simp (config := {maxSteps := 1000000}) only [f_X8_paidTwice, wg_0, wg_s, wK_none, wK_N, wK_C, wK_R, wQ_some, wQ_none, stR, mZ, mC, stI, ini, mL, gI, gA, sI, sA, bi, gF, pF, kF, kT, kL, c2, mT, mR, f4, tsw, lsw, tgt, inR, Nat.reduceLT, Nat.reduceLeDiff, Nat.reduceEqDiff, Nat.reduceAdd, Nat.reduceSub, ↓reduceIte, Bool.false_eq_true, List.map_cons, List.map_nil, List.length_cons, List.length_nil, List.replicate, List.cons_append, List.nil_append, List.getElem?_cons_zero, List.getElem?_cons_succ, List.set, List.take_succ_cons, List.take_zero, List.drop_succ_cons, List.drop_zero, List.reverse_cons, List.reverse_nil, Int.reduceLE, Int.reduceLT, Int.reduceNeg, Int.reduceToNat, true_and, and_true, and_self, beq_iff_eq, Bool.and_eq_true, Bool.or_eq_true, or_false, false_or, or_true, true_or, and_false, false_and, hu_hr, hr_hr, hr_at, hr_nc, not_false_eq_true, Int.reduceEq, Int.pow_zero, Int.reducePow, Int.reduceMul, Int.reduceAdd, Int.reduceDiv, Int.reduceMod, Int.zero_add, Int.add_zero, Int.mul_one])
  exact h
set_option maxHeartbeats 4000000 in
set_option maxRecDepth 100000 in
theorem m_paidTwice {S : Hp} (hP : PdB (S 0 31)) (Q : Option MV → Hp → Prop) : Wc 148 [.inr (0, 30)] S Q = Q (some (.inl (ptC (S 0 31)))) S := by
  refine Wc_eq ?_ Q
  unfold Wc
  refine vg_sound (fun m pc => (m == 148 && pc == 4)) (fun m => m == 148) 10 _ _ _ _ _ _ ?_
  repeat' first | (with_reducible refine vT ?_ ?_; · omega) | (with_reducible refine vF ?_ ?_; · omega) | (with_reducible refine vI (fun _ => ?_) (fun _ => ?_)) | (simp (config := {maxSteps := 1000000}) only [f_X8_paidTwice, wg_0, wg_s, wK_none, wK_N, wK_C, wK_R, wQ_some, wQ_none, stR, mZ, mC, stI, ini, mL, gI, gA, sI, sA, bi, gF, pF, kF, kT, kL, c2, mT, mR, f4, tsw, lsw, tgt, inR, Nat.reduceLT, Nat.reduceLeDiff, Nat.reduceEqDiff, Nat.reduceAdd, Nat.reduceSub, ↓reduceIte, Bool.false_eq_true, List.map_cons, List.map_nil, List.length_cons, List.length_nil, List.replicate, List.cons_append, List.nil_append, List.getElem?_cons_zero, List.getElem?_cons_succ, List.set, List.take_succ_cons, List.take_zero, List.drop_succ_cons, List.drop_zero, List.reverse_cons, List.reverse_nil, Int.reduceLE, Int.reduceLT, Int.reduceNeg, Int.reduceToNat, true_and, and_true, and_self, beq_iff_eq, Bool.and_eq_true, Bool.or_eq_true, or_false, false_or, or_true, true_or, and_false, false_and, hu_hr, hr_hr, hr_at, hr_nc, not_false_eq_true, Int.reduceEq, Int.pow_zero, Int.reducePow, Int.reduceMul, Int.reduceAdd, Int.reduceDiv, Int.reduceMod, Int.zero_add, Int.add_zero, Int.mul_one])
  obtain ⟨N, hN⟩ : ∃ N : Nat, N = 600 := ⟨_, rfl⟩
  have hs : ptC (S 0 31) = sm (fun k => ptI (S 0 31) (k : Int)) N := by rw [hN]; rfl
  rw [hs]
  refine wp_for (fun j => [some (.inr (0, 30)), some (.inl (sm (fun k => ptI (S 0 31) (k : Int)) j)), some (.inl (j : Int))]) (fun _ => S) N (by simp [sm]) rfl (fun j hj h => ?_) ?_
  · refine pt_step hP (by omega) ?_
    rw [sm_s, Int.natCast_add] at h
    exact h
  · have e : (N : Int) = 600 := by omega
    rw [e]
    exact pt_end ⟨rfl, rfl⟩
def opI (M : Int → Int) (t : Int) : Int := if 0 < M (1433 + t) then 1 else 0
def opC (M : Int → Int) : Int := sm (fun k => opI M (k : Int)) 600
set_option maxHeartbeats 4000000 in
set_option maxRecDepth 100000 in
theorem op_step {S : Hp} {z x : Int} {Q : Option MV → Hp → Prop} (hD : DsB (S 0 31)) (hz : 0 ≤ z ∧ z < 600) (h : Wp 149 4 [some (.inr (0, 30)), some (.inl (x + opI (S 0 31) z)), some (.inl (z + 1))] [] S Q) : Wp 149 4 [some (.inr (0, 30)), some (.inl x), some (.inl z)] [] S Q := by
  have hd := hD z hz.1 hz.2
  unfold opI at h
  refine vg_cut (fun m pc => (m == 149 && pc == 4)) (fun m => m == 149) 40 _ _ _ _ _ _ ?_
  repeat' first | (with_reducible refine vT ?_ ?_; · omega) | (with_reducible refine vF ?_ ?_; · omega) | (with_reducible refine vI (fun _ => ?_) (fun _ => ?_)) | (simp (config := {maxSteps := 1000000}) (disch := (first | assumption | omega | (rw [hr_at]; assumption) | (rw [hr_at]; omega))) only [f_X8_openOnes, wg_0, wg_s, wK_none, wK_N, wK_C, wK_R, wQ_some, wQ_none, stR, mZ, mC, stI, ini, mL, gI, gA, sI, sA, bi, gF, pF, kF, kT, kL, c2, mT, mR, f4, tsw, lsw, tgt, inR, Nat.reduceLT, Nat.reduceLeDiff, Nat.reduceEqDiff, Nat.reduceAdd, Nat.reduceSub, ↓reduceIte, Bool.false_eq_true, List.map_cons, List.map_nil, List.length_cons, List.length_nil, List.replicate, List.cons_append, List.nil_append, List.getElem?_cons_zero, List.getElem?_cons_succ, List.set, List.take_succ_cons, List.take_zero, List.drop_succ_cons, List.drop_zero, List.reverse_cons, List.reverse_nil, Int.reduceLE, Int.reduceLT, Int.reduceNeg, Int.reduceToNat, true_and, and_true, and_self, beq_iff_eq, Bool.and_eq_true, Bool.or_eq_true, or_false, false_or, or_true, true_or, and_false, false_and, hu_hr, hr_hr, hr_at, hr_nc, not_false_eq_true, Int.reduceEq, Int.pow_zero, Int.reducePow, Int.reduceMul, Int.reduceAdd, Int.reduceDiv, Int.reduceMod, Int.zero_add, Int.add_zero, Int.mul_one])
  all_goals (first | rw [if_pos (by omega)] at h | (rw [if_neg (by omega), Int.add_zero] at h))
  all_goals exact h
set_option maxHeartbeats 4000000 in
set_option maxRecDepth 100000 in
theorem op_end {S : Hp} {x : Int} {Q : Option MV → Hp → Prop} (h : Q (some (.inl x)) S) : Wp 149 4 [some (.inr (0, 30)), some (.inl x), some (.inl 600)] [] S Q := by
  refine vg_cut (fun m pc => (m == 149 && pc == 4)) (fun m => m == 149) 40 _ _ _ _ _ _ ?_
  repeat' first | (with_reducible refine vT ?_ ?_; · omega) | (with_reducible refine vF ?_ ?_; · omega) | (with_reducible refine vI (fun _ => ?_) (fun _ => ?_)) | (simp (config := {maxSteps := 1000000}) only [f_X8_openOnes, wg_0, wg_s, wK_none, wK_N, wK_C, wK_R, wQ_some, wQ_none, stR, mZ, mC, stI, ini, mL, gI, gA, sI, sA, bi, gF, pF, kF, kT, kL, c2, mT, mR, f4, tsw, lsw, tgt, inR, Nat.reduceLT, Nat.reduceLeDiff, Nat.reduceEqDiff, Nat.reduceAdd, Nat.reduceSub, ↓reduceIte, Bool.false_eq_true, List.map_cons, List.map_nil, List.length_cons, List.length_nil, List.replicate, List.cons_append, List.nil_append, List.getElem?_cons_zero, List.getElem?_cons_succ, List.set, List.take_succ_cons, List.take_zero, List.drop_succ_cons, List.drop_zero, List.reverse_cons, List.reverse_nil, Int.reduceLE, Int.reduceLT, Int.reduceNeg, Int.reduceToNat, true_and, and_true, and_self, beq_iff_eq, Bool.and_eq_true, Bool.or_eq_true, or_false, false_or, or_true, true_or, and_false, false_and, hu_hr, hr_hr, hr_at, hr_nc, not_false_eq_true, Int.reduceEq, Int.pow_zero, Int.reducePow, Int.reduceMul, Int.reduceAdd, Int.reduceDiv, Int.reduceMod, Int.zero_add, Int.add_zero, Int.mul_one])
  exact h
set_option maxHeartbeats 4000000 in
set_option maxRecDepth 100000 in
theorem m_openOnes {S : Hp} (hD : DsB (S 0 31)) (Q : Option MV → Hp → Prop) : Wc 149 [.inr (0, 30)] S Q = Q (some (.inl (opC (S 0 31)))) S := by
  refine Wc_eq ?_ Q
  unfold Wc
  refine vg_sound (fun m pc => (m == 149 && pc == 4)) (fun m => m == 149) 10 _ _ _ _ _ _ ?_
  repeat' first | (with_reducible refine vT ?_ ?_; · omega) | (with_reducible refine vF ?_ ?_; · omega) | (with_reducible refine vI (fun _ => ?_) (fun _ => ?_)) | (simp (config := {maxSteps := 1000000}) only [f_X8_openOnes, wg_0, wg_s, wK_none, wK_N, wK_C, wK_R, wQ_some, wQ_none, stR, mZ, mC, stI, ini, mL, gI, gA, sI, sA, bi, gF, pF, kF, kT, kL, c2, mT, mR, f4, tsw, lsw, tgt, inR, Nat.reduceLT, Nat.reduceLeDiff, Nat.reduceEqDiff, Nat.reduceAdd, Nat.reduceSub, ↓reduceIte, Bool.false_eq_true, List.map_cons, List.map_nil, List.length_cons, List.length_nil, List.replicate, List.cons_append, List.nil_append, List.getElem?_cons_zero, List.getElem?_cons_succ, List.set, List.take_succ_cons, List.take_zero, List.drop_succ_cons, List.drop_zero, List.reverse_cons, List.reverse_nil, Int.reduceLE, Int.reduceLT, Int.reduceNeg, Int.reduceToNat, true_and, and_true, and_self, beq_iff_eq, Bool.and_eq_true, Bool.or_eq_true, or_false, false_or, or_true, true_or, and_false, false_and, hu_hr, hr_hr, hr_at, hr_nc, not_false_eq_true, Int.reduceEq, Int.pow_zero, Int.reducePow, Int.reduceMul, Int.reduceAdd, Int.reduceDiv, Int.reduceMod, Int.zero_add, Int.add_zero, Int.mul_one])
  obtain ⟨N, hN⟩ : ∃ N : Nat, N = 600 := ⟨_, rfl⟩
  have hs : opC (S 0 31) = sm (fun k => opI (S 0 31) (k : Int)) N := by rw [hN]; rfl
  rw [hs]
  refine wp_for (fun j => [some (.inr (0, 30)), some (.inl (sm (fun k => opI (S 0 31) (k : Int)) j)), some (.inl (j : Int))]) (fun _ => S) N (by simp [sm]) rfl (fun j hj h => ?_) ?_
  · refine op_step hD (by omega) ?_
    rw [sm_s, Int.natCast_add] at h
    exact h
  · have e : (N : Int) = 600 := by omega
    rw [e]
    exact op_end ⟨rfl, rfl⟩
def cbC (M : Int → Int) (t : Int) : Int := sm (fun x => qb M t (5 + (x : Int)).toNat) 3
def cbA (M : Int → Int) : Int := sm (fun k => cbC M (k : Int)) 600
set_option maxHeartbeats 4000000 in
set_option maxRecDepth 100000 in
theorem cb_in {S : Hp} {z y c : Int} {Q : Option MV → Hp → Prop} (hF : FlB (S 0 31)) (hz : 0 ≤ z ∧ z < 600) (hy : 0 ≤ y ∧ y < 3) (h : Wp 146 13 [some (.inr (0, 30)), some (.inl (c + qb (S 0 31) z (5 + y).toNat)), some (.inl z), some (.inl (y + 1))] [] S Q) : Wp 146 13 [some (.inr (0, 30)), some (.inl c), some (.inl z), some (.inl y)] [] S Q := by
  have hq := qb_01 (S 0 31) z (5 + y).toNat
  refine vg_cut (fun m pc => (m == 146 && pc == 13)) (fun m => m == 146) 40 _ _ _ _ _ _ ?_
  repeat' first | (with_reducible refine vT ?_ ?_; · omega) | (with_reducible refine vF ?_ ?_; · omega) | (with_reducible refine vI (fun _ => ?_) (fun _ => ?_)) | (simp (config := {maxSteps := 1000000}) (disch := (first | assumption | omega | (rw [hr_at]; assumption) | (rw [hr_at]; omega))) only [f_X8_calledBack, wg_0, wg_s, wK_none, wK_N, wK_C, wK_R, wQ_some, wQ_none, stR, mZ, mC, stI, ini, mL, gI, gA, sI, sA, bi, gF, pF, kF, kT, kL, c2, mT, mR, f4, tsw, lsw, tgt, inR, Nat.reduceLT, Nat.reduceLeDiff, Nat.reduceEqDiff, Nat.reduceAdd, Nat.reduceSub, ↓reduceIte, Bool.false_eq_true, List.map_cons, List.map_nil, List.length_cons, List.length_nil, List.replicate, List.cons_append, List.nil_append, List.getElem?_cons_zero, List.getElem?_cons_succ, List.set, List.take_succ_cons, List.take_zero, List.drop_succ_cons, List.drop_zero, List.reverse_cons, List.reverse_nil, Int.reduceLE, Int.reduceLT, Int.reduceNeg, Int.reduceToNat, true_and, and_true, and_self, beq_iff_eq, Bool.and_eq_true, Bool.or_eq_true, or_false, false_or, or_true, true_or, and_false, false_and, hu_hr, hr_hr, hr_at, hr_nc, not_false_eq_true, Int.reduceEq, Int.pow_zero, Int.reducePow, Int.reduceMul, Int.reduceAdd, Int.reduceDiv, Int.reduceMod, Int.zero_add, Int.add_zero, Int.mul_one, m_is, hF])
  · next e => rw [e, Int.add_zero] at h; exact h
  · rw [show qb (S 0 31) z (5 + y).toNat = 1 by omega] at h; exact h
set_option maxHeartbeats 4000000 in
set_option maxRecDepth 100000 in
theorem cb_out {S : Hp} {z c : Int} {Q : Option MV → Hp → Prop} (h : ∀ y : Option MV, Wp 146 4 [some (.inr (0, 30)), some (.inl c), some (.inl (z + 1)), y] [] S Q) : Wp 146 13 [some (.inr (0, 30)), some (.inl c), some (.inl z), some (.inl 3)] [] S Q := by
  refine vg_cut (fun m pc => (m == 146 && pc == 4) || (m == 146 && pc == 13)) (fun m => m == 146) 40 _ _ _ _ _ _ ?_
  repeat' first | (with_reducible refine vT ?_ ?_; · omega) | (with_reducible refine vF ?_ ?_; · omega) | (with_reducible refine vI (fun _ => ?_) (fun _ => ?_)) | (simp (config := {maxSteps := 1000000}) only [f_X8_calledBack, wg_0, wg_s, wK_none, wK_N, wK_C, wK_R, wQ_some, wQ_none, stR, mZ, mC, stI, ini, mL, gI, gA, sI, sA, bi, gF, pF, kF, kT, kL, c2, mT, mR, f4, tsw, lsw, tgt, inR, Nat.reduceLT, Nat.reduceLeDiff, Nat.reduceEqDiff, Nat.reduceAdd, Nat.reduceSub, ↓reduceIte, Bool.false_eq_true, List.map_cons, List.map_nil, List.length_cons, List.length_nil, List.replicate, List.cons_append, List.nil_append, List.getElem?_cons_zero, List.getElem?_cons_succ, List.set, List.take_succ_cons, List.take_zero, List.drop_succ_cons, List.drop_zero, List.reverse_cons, List.reverse_nil, Int.reduceLE, Int.reduceLT, Int.reduceNeg, Int.reduceToNat, true_and, and_true, and_self, beq_iff_eq, Bool.and_eq_true, Bool.or_eq_true, or_false, false_or, or_true, true_or, and_false, false_and, hu_hr, hr_hr, hr_at, hr_nc, not_false_eq_true, Int.reduceEq, Int.pow_zero, Int.reducePow, Int.reduceMul, Int.reduceAdd, Int.reduceDiv, Int.reduceMod, Int.zero_add, Int.add_zero, Int.mul_one])
  exact h _
set_option maxHeartbeats 4000000 in
set_option maxRecDepth 100000 in
theorem cb_step {S : Hp} {z c : Int} {y : Option MV} {Q : Option MV → Hp → Prop} (hF : FlB (S 0 31)) (hz : 0 ≤ z ∧ z < 600) (h : ∀ y : Option MV, Wp 146 4 [some (.inr (0, 30)), some (.inl (c + cbC (S 0 31) z)), some (.inl (z + 1)), y] [] S Q) : Wp 146 4 [some (.inr (0, 30)), some (.inl c), some (.inl z), y] [] S Q := by
  have hgo : Wp 146 13 [some (.inr (0, 30)), some (.inl c), some (.inl z), some (.inl 0)] [] S Q := by
    obtain ⟨N, hN⟩ : ∃ N : Nat, N = 3 := ⟨_, rfl⟩
    have hs : cbC (S 0 31) z = sm (fun x => qb (S 0 31) z (5 + (x : Int)).toNat) N := by rw [hN]; rfl
    rw [hs] at h
    refine wp_for (fun j => [some (.inr (0, 30)), some (.inl (c + sm (fun x => qb (S 0 31) z (5 + (x : Int)).toNat) j)), some (.inl z), some (.inl (j : Int))]) (fun _ => S) N (by simp [sm]) rfl (fun j hj h => ?_) ?_
    · refine cb_in hF hz (by omega) ?_
      rw [sm_s, Int.natCast_add, ← Int.add_assoc] at h
      exact h
    · have e : (N : Int) = 3 := by omega
      rw [e]
      exact cb_out h
  refine vg_cut (fun m pc => (m == 146 && pc == 4) || (m == 146 && pc == 13)) (fun m => m == 146) 40 _ _ _ _ _ _ ?_
  repeat' first | (with_reducible refine vT ?_ ?_; · omega) | (with_reducible refine vF ?_ ?_; · omega) | (with_reducible refine vI (fun _ => ?_) (fun _ => ?_)) | (simp (config := {maxSteps := 1000000}) (disch := (first | assumption | omega | (rw [hr_at]; assumption) | (rw [hr_at]; omega))) only [f_X8_calledBack, wg_0, wg_s, wK_none, wK_N, wK_C, wK_R, wQ_some, wQ_none, stR, mZ, mC, stI, ini, mL, gI, gA, sI, sA, bi, gF, pF, kF, kT, kL, c2, mT, mR, f4, tsw, lsw, tgt, inR, Nat.reduceLT, Nat.reduceLeDiff, Nat.reduceEqDiff, Nat.reduceAdd, Nat.reduceSub, ↓reduceIte, Bool.false_eq_true, List.map_cons, List.map_nil, List.length_cons, List.length_nil, List.replicate, List.cons_append, List.nil_append, List.getElem?_cons_zero, List.getElem?_cons_succ, List.set, List.take_succ_cons, List.take_zero, List.drop_succ_cons, List.drop_zero, List.reverse_cons, List.reverse_nil, Int.reduceLE, Int.reduceLT, Int.reduceNeg, Int.reduceToNat, true_and, and_true, and_self, beq_iff_eq, Bool.and_eq_true, Bool.or_eq_true, or_false, false_or, or_true, true_or, and_false, false_and, hu_hr, hr_hr, hr_at, hr_nc, not_false_eq_true, Int.reduceEq, Int.pow_zero, Int.reducePow, Int.reduceMul, Int.reduceAdd, Int.reduceDiv, Int.reduceMod, Int.zero_add, Int.add_zero, Int.mul_one])
  exact hgo
set_option maxHeartbeats 4000000 in
set_option maxRecDepth 100000 in
theorem cb_end {S : Hp} {x : Int} {y : Option MV} {Q : Option MV → Hp → Prop} (h : Q (some (.inl x)) S) : Wp 146 4 [some (.inr (0, 30)), some (.inl x), some (.inl 600), y] [] S Q := by
  refine vg_cut (fun m pc => (m == 146 && pc == 4)) (fun m => m == 146) 40 _ _ _ _ _ _ ?_
  repeat' first | (with_reducible refine vT ?_ ?_; · omega) | (with_reducible refine vF ?_ ?_; · omega) | (with_reducible refine vI (fun _ => ?_) (fun _ => ?_)) | (simp (config := {maxSteps := 1000000}) only [f_X8_calledBack, wg_0, wg_s, wK_none, wK_N, wK_C, wK_R, wQ_some, wQ_none, stR, mZ, mC, stI, ini, mL, gI, gA, sI, sA, bi, gF, pF, kF, kT, kL, c2, mT, mR, f4, tsw, lsw, tgt, inR, Nat.reduceLT, Nat.reduceLeDiff, Nat.reduceEqDiff, Nat.reduceAdd, Nat.reduceSub, ↓reduceIte, Bool.false_eq_true, List.map_cons, List.map_nil, List.length_cons, List.length_nil, List.replicate, List.cons_append, List.nil_append, List.getElem?_cons_zero, List.getElem?_cons_succ, List.set, List.take_succ_cons, List.take_zero, List.drop_succ_cons, List.drop_zero, List.reverse_cons, List.reverse_nil, Int.reduceLE, Int.reduceLT, Int.reduceNeg, Int.reduceToNat, true_and, and_true, and_self, beq_iff_eq, Bool.and_eq_true, Bool.or_eq_true, or_false, false_or, or_true, true_or, and_false, false_and, hu_hr, hr_hr, hr_at, hr_nc, not_false_eq_true, Int.reduceEq, Int.pow_zero, Int.reducePow, Int.reduceMul, Int.reduceAdd, Int.reduceDiv, Int.reduceMod, Int.zero_add, Int.add_zero, Int.mul_one])
  exact h
set_option maxHeartbeats 4000000 in
set_option maxRecDepth 100000 in
theorem cb_loop {S : Hp} {N : Nat} {Q : Option MV → Hp → Prop} (hF : FlB (S 0 31)) (hN : N = 600) (h : Q (some (.inl (sm (fun k => cbC (S 0 31) (k : Int)) N))) S) : ∀ d j : Nat, j + d = N → ∀ y : Option MV, Wp 146 4 [some (.inr (0, 30)), some (.inl (sm (fun k => cbC (S 0 31) (k : Int)) j)), some (.inl (j : Int)), y] [] S Q := by
  intro d
  induction d with
  | zero =>
    intro j hj y
    obtain rfl : j = N := by omega
    have e : (j : Int) = 600 := by omega
    rw [e]
    exact cb_end h
  | succ d ih =>
    intro j hj y
    refine cb_step hF (by omega) (fun y => ?_)
    have h1 := ih (j + 1) (by omega) y
    rw [sm_s, Int.natCast_add] at h1
    exact h1
set_option maxHeartbeats 4000000 in
set_option maxRecDepth 100000 in
theorem m_calledBack {S : Hp} (hF : FlB (S 0 31)) (Q : Option MV → Hp → Prop) : Wc 146 [.inr (0, 30)] S Q = Q (some (.inl (cbA (S 0 31)))) S := by
  refine Wc_eq ?_ Q
  unfold Wc
  refine vg_sound (fun m pc => (m == 146 && pc == 4)) (fun m => m == 146) 10 _ _ _ _ _ _ ?_
  repeat' first | (with_reducible refine vT ?_ ?_; · omega) | (with_reducible refine vF ?_ ?_; · omega) | (with_reducible refine vI (fun _ => ?_) (fun _ => ?_)) | (simp (config := {maxSteps := 1000000}) only [f_X8_calledBack, wg_0, wg_s, wK_none, wK_N, wK_C, wK_R, wQ_some, wQ_none, stR, mZ, mC, stI, ini, mL, gI, gA, sI, sA, bi, gF, pF, kF, kT, kL, c2, mT, mR, f4, tsw, lsw, tgt, inR, Nat.reduceLT, Nat.reduceLeDiff, Nat.reduceEqDiff, Nat.reduceAdd, Nat.reduceSub, ↓reduceIte, Bool.false_eq_true, List.map_cons, List.map_nil, List.length_cons, List.length_nil, List.replicate, List.cons_append, List.nil_append, List.getElem?_cons_zero, List.getElem?_cons_succ, List.set, List.take_succ_cons, List.take_zero, List.drop_succ_cons, List.drop_zero, List.reverse_cons, List.reverse_nil, Int.reduceLE, Int.reduceLT, Int.reduceNeg, Int.reduceToNat, true_and, and_true, and_self, beq_iff_eq, Bool.and_eq_true, Bool.or_eq_true, or_false, false_or, or_true, true_or, and_false, false_and, hu_hr, hr_hr, hr_at, hr_nc, not_false_eq_true, Int.reduceEq, Int.pow_zero, Int.reducePow, Int.reduceMul, Int.reduceAdd, Int.reduceDiv, Int.reduceMod, Int.zero_add, Int.add_zero, Int.mul_one])
  obtain ⟨N, hN⟩ : ∃ N : Nat, N = 600 := ⟨_, rfl⟩
  have hs : cbA (S 0 31) = sm (fun k => cbC (S 0 31) (k : Int)) N := by rw [hN]; rfl
  have hgo := cb_loop (S := S) (N := N) (Q := fun r T => r = some (.inl (cbA (S 0 31))) ∧ T = S) hF hN (by rw [hs]; exact ⟨rfl, rfl⟩) N 0 (by omega) none
  have e0 : sm (fun k => cbC (S 0 31) (k : Int)) 0 = 0 := rfl
  rw [e0] at hgo
  exact hgo
