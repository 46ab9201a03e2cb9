/-! THE REFERENCE: what is told -/
set_option maxHeartbeats 4000000 in
set_option maxRecDepth 100000 in
theorem and7 {z : Int} (h : 0 ≤ z) (h2 : z < 2147483648) : bAnd z 7 = z % 8 := by
  obtain ⟨a, rfl⟩ : ∃ a : Nat, z = a := ⟨z.toNat, by omega⟩
  have e := bA a 7 (by omega)
  rw [show (7 : Nat) = 2 ^ 3 - 1 from rfl, Nat.and_two_pow_sub_one_eq_mod] at e
  have e2 : bAnd (a : Int) 7 = ((a % 2 ^ 3 : Nat) : Int) := e
  rw [e2]
  omega
def wwI (M : Int → Int) (t w : Int) (n : Nat) : Int := sm (fun r => if M (8 + 15 * w + (1 + (r : Int))) = t then 1 else 0) n
def wwC (M : Int → Int) (t : Int) : Int := wwI M t 0 (M 8).toNat + wwI M t 1 (M 23).toNat + wwI M t 2 (M 38).toNat
set_option maxHeartbeats 4000000 in
set_option maxRecDepth 100000 in
theorem ww_step {S : Hp} {t c w z : Int} {Q : Option MV → Hp → Prop} (hw : 0 ≤ w ∧ w < 3) (hs : S 0 31 (8 + 15 * w) ≤ 8) (hz : 0 ≤ z ∧ z < S 0 31 (8 + 15 * w)) (ht : 0 ≤ t ∧ t < 600) (hv : 0 ≤ S 0 31 (8 + 15 * w + (1 + z)) ∧ S 0 31 (8 + 15 * w + (1 + z)) < 600) (h : Wp 175 12 [some (.inr (0, 30)), some (.inl t), some (.inl (c + if S 0 31 (8 + 15 * w + (1 + z)) = t then 1 else 0)), some (.inl w), some (.inl (z + 1))] [] S Q) : Wp 175 12 [some (.inr (0, 30)), some (.inl t), some (.inl c), some (.inl w), some (.inl z)] [] S Q := by
  by_cases e : S 0 31 (8 + 15 * w + (1 + z)) = t
  · rw [if_pos e] at h
    refine vg_cut (fun m pc => (m == 175 && pc == 12)) (fun m => m == 175 || m == 117) 60 _ _ _ _ _ _ ?_
    repeat' first | (with_reducible refine vT ?_ ?_; · omega) | (with_reducible refine vF ?_ ?_; · omega) | (with_reducible refine vI (fun _ => ?_) (fun _ => ?_)) | (simp (config := {maxSteps := 1000000}) (disch := (first | assumption | omega | (rw [hr_at]; assumption) | (rw [hr_at]; omega))) only [f_X8_waitingWith, f_X8_at, wg_0, wg_s, wK_none, wK_N, wK_C, wK_R, wQ_some, wQ_none, stR, mZ, mC, stI, ini, mL, gI, gA, sI, sA, bi, gF, pF, kF, kT, kL, c2, mT, mR, f4, tsw, lsw, tgt, inR, Nat.reduceLT, Nat.reduceLeDiff, Nat.reduceEqDiff, Nat.reduceAdd, Nat.reduceSub, ↓reduceIte, Bool.false_eq_true, List.map_cons, List.map_nil, List.length_cons, List.length_nil, List.replicate, List.cons_append, List.nil_append, List.getElem?_cons_zero, List.getElem?_cons_succ, List.set, List.take_succ_cons, List.take_zero, List.drop_succ_cons, List.drop_zero, List.reverse_cons, List.reverse_nil, Int.reduceLE, Int.reduceLT, Int.reduceNeg, Int.reduceToNat, true_and, and_true, and_self, beq_iff_eq, Bool.and_eq_true, Bool.or_eq_true, or_false, false_or, or_true, true_or, and_false, false_and, hu_hr, hr_hr, hr_at, hr_nc, not_false_eq_true, Int.reduceEq, Int.pow_zero, Int.reducePow, Int.reduceMul, Int.reduceAdd, Int.reduceDiv, Int.reduceMod, Int.zero_add, Int.add_zero, Int.mul_one, Int.cast_ofNat_Int])
    exact h
  · rw [if_neg e] at h
    rw [Int.add_zero] at h
    refine vg_cut (fun m pc => (m == 175 && pc == 12)) (fun m => m == 175 || m == 117) 60 _ _ _ _ _ _ ?_
    repeat' first | (with_reducible refine vT ?_ ?_; · omega) | (with_reducible refine vF ?_ ?_; · omega) | (with_reducible refine vI (fun _ => ?_) (fun _ => ?_)) | (simp (config := {maxSteps := 1000000}) (disch := (first | assumption | omega | (rw [hr_at]; assumption) | (rw [hr_at]; omega))) only [f_X8_waitingWith, f_X8_at, wg_0, wg_s, wK_none, wK_N, wK_C, wK_R, wQ_some, wQ_none, stR, mZ, mC, stI, ini, mL, gI, gA, sI, sA, bi, gF, pF, kF, kT, kL, c2, mT, mR, f4, tsw, lsw, tgt, inR, Nat.reduceLT, Nat.reduceLeDiff, Nat.reduceEqDiff, Nat.reduceAdd, Nat.reduceSub, ↓reduceIte, Bool.false_eq_true, List.map_cons, List.map_nil, List.length_cons, List.length_nil, List.replicate, List.cons_append, List.nil_append, List.getElem?_cons_zero, List.getElem?_cons_succ, List.set, List.take_succ_cons, List.take_zero, List.drop_succ_cons, List.drop_zero, List.reverse_cons, List.reverse_nil, Int.reduceLE, Int.reduceLT, Int.reduceNeg, Int.reduceToNat, true_and, and_true, and_self, beq_iff_eq, Bool.and_eq_true, Bool.or_eq_true, or_false, false_or, or_true, true_or, and_false, false_and, hu_hr, hr_hr, hr_at, hr_nc, not_false_eq_true, Int.reduceEq, Int.pow_zero, Int.reducePow, Int.reduceMul, Int.reduceAdd, Int.reduceDiv, Int.reduceMod, Int.zero_add, Int.add_zero, Int.mul_one, Int.cast_ofNat_Int])
    exact h
set_option maxHeartbeats 4000000 in
set_option maxRecDepth 100000 in
theorem ww_next {S : Hp} {t c w z : Int} {Q : Option MV → Hp → Prop} (hw : 0 ≤ w ∧ w < 3) (hs : 0 ≤ S 0 31 (8 + 15 * w) ∧ S 0 31 (8 + 15 * w) ≤ 8) (hz : z = S 0 31 (8 + 15 * w)) (h : ∀ y : Option MV, Wp 175 4 [some (.inr (0, 30)), some (.inl t), some (.inl c), some (.inl (w + 1)), y] [] S Q) : Wp 175 12 [some (.inr (0, 30)), some (.inl t), some (.inl c), some (.inl w), some (.inl z)] [] S Q := by
  refine vg_cut (fun m pc => (m == 175 && pc == 4) || (m == 175 && pc == 12)) (fun m => m == 175 || m == 117) 60 _ _ _ _ _ _ ?_
  repeat' first | (with_reducible refine vT ?_ ?_; · omega) | (with_reducible refine vF ?_ ?_; · omega) | (with_reducible refine vI (fun _ => ?_) (fun _ => ?_)) | (simp (config := {maxSteps := 1000000}) (disch := (first | assumption | omega | (rw [hr_at]; assumption) | (rw [hr_at]; omega))) only [f_X8_waitingWith, f_X8_at, wg_0, wg_s, wK_none, wK_N, wK_C, wK_R, wQ_some, wQ_none, stR, mZ, mC, stI, ini, mL, gI, gA, sI, sA, bi, gF, pF, kF, kT, kL, c2, mT, mR, f4, tsw, lsw, tgt, inR, Nat.reduceLT, Nat.reduceLeDiff, Nat.reduceEqDiff, Nat.reduceAdd, Nat.reduceSub, ↓reduceIte, Bool.false_eq_true, List.map_cons, List.map_nil, List.length_cons, List.length_nil, List.replicate, List.cons_append, List.nil_append, List.getElem?_cons_zero, List.getElem?_cons_succ, List.set, List.take_succ_cons, List.take_zero, List.drop_succ_cons, List.drop_zero, List.reverse_cons, List.reverse_nil, Int.reduceLE, Int.reduceLT, Int.reduceNeg, Int.reduceToNat, true_and, and_true, and_self, beq_iff_eq, Bool.and_eq_true, Bool.or_eq_true, or_false, false_or, or_true, true_or, and_false, false_and, hu_hr, hr_hr, hr_at, hr_nc, not_false_eq_true, Int.reduceEq, Int.pow_zero, Int.reducePow, Int.reduceMul, Int.reduceAdd, Int.reduceDiv, Int.reduceMod, Int.zero_add, Int.add_zero, Int.mul_one, Int.cast_ofNat_Int])
  exact h _
set_option maxHeartbeats 4000000 in
set_option maxRecDepth 100000 in
theorem ww_head {S : Hp} {t c w : Int} {y : Option MV} {Q : Option MV → Hp → Prop} (hw : 0 ≤ w ∧ w < 3) (h : Wp 175 12 [some (.inr (0, 30)), some (.inl t), some (.inl c), some (.inl w), some (.inl 0)] [] S Q) : Wp 175 4 [some (.inr (0, 30)), some (.inl t), some (.inl c), some (.inl w), y] [] S Q := by
  refine vg_cut (fun m pc => (m == 175 && pc == 4) || (m == 175 && pc == 12)) (fun m => m == 175 || m == 117) 60 _ _ _ _ _ _ ?_
  repeat' first | (with_reducible refine vT ?_ ?_; · omega) | (with_reducible refine vF ?_ ?_; · omega) | (with_reducible refine vI (fun _ => ?_) (fun _ => ?_)) | (simp (config := {maxSteps := 1000000}) (disch := (first | assumption | omega | (rw [hr_at]; assumption) | (rw [hr_at]; omega))) only [f_X8_waitingWith, f_X8_at, wg_0, wg_s, wK_none, wK_N, wK_C, wK_R, wQ_some, wQ_none, stR, mZ, mC, stI, ini, mL, gI, gA, sI, sA, bi, gF, pF, kF, kT, kL, c2, mT, mR, f4, tsw, lsw, tgt, inR, Nat.reduceLT, Nat.reduceLeDiff, Nat.reduceEqDiff, Nat.reduceAdd, Nat.reduceSub, ↓reduceIte, Bool.false_eq_true, List.map_cons, List.map_nil, List.length_cons, List.length_nil, List.replicate, List.cons_append, List.nil_append, List.getElem?_cons_zero, List.getElem?_cons_succ, List.set, List.take_succ_cons, List.take_zero, List.drop_succ_cons, List.drop_zero, List.reverse_cons, List.reverse_nil, Int.reduceLE, Int.reduceLT, Int.reduceNeg, Int.reduceToNat, true_and, and_true, and_self, beq_iff_eq, Bool.and_eq_true, Bool.or_eq_true, or_false, false_or, or_true, true_or, and_false, false_and, hu_hr, hr_hr, hr_at, hr_nc, not_false_eq_true, Int.reduceEq, Int.pow_zero, Int.reducePow, Int.reduceMul, Int.reduceAdd, Int.reduceDiv, Int.reduceMod, Int.zero_add, Int.add_zero, Int.mul_one, Int.cast_ofNat_Int])
  exact h
set_option maxHeartbeats 4000000 in
set_option maxRecDepth 100000 in
theorem ww_end {S : Hp} {t c : Int} {y : Option MV} {Q : Option MV → Hp → Prop} (h : Q (some (.inl c)) S) : Wp 175 4 [some (.inr (0, 30)), some (.inl t), some (.inl c), some (.inl 3), y] [] S Q := by
  refine vg_cut (fun m pc => (m == 175 && pc == 4)) (fun m => m == 175) 60 _ _ _ _ _ _ ?_
  repeat' first | (with_reducible refine vT ?_ ?_; · omega) | (with_reducible refine vF ?_ ?_; · omega) | (with_reducible refine vI (fun _ => ?_) (fun _ => ?_)) | (simp (config := {maxSteps := 1000000}) (disch := (first | assumption | omega | (rw [hr_at]; assumption) | (rw [hr_at]; omega))) only [f_X8_waitingWith, wg_0, wg_s, wK_none, wK_N, wK_C, wK_R, wQ_some, wQ_none, stR, mZ, mC, stI, ini, mL, gI, gA, sI, sA, bi, gF, pF, kF, kT, kL, c2, mT, mR, f4, tsw, lsw, tgt, inR, Nat.reduceLT, Nat.reduceLeDiff, Nat.reduceEqDiff, Nat.reduceAdd, Nat.reduceSub, ↓reduceIte, Bool.false_eq_true, List.map_cons, List.map_nil, List.length_cons, List.length_nil, List.replicate, List.cons_append, List.nil_append, List.getElem?_cons_zero, List.getElem?_cons_succ, List.set, List.take_succ_cons, List.take_zero, List.drop_succ_cons, List.drop_zero, List.reverse_cons, List.reverse_nil, Int.reduceLE, Int.reduceLT, Int.reduceNeg, Int.reduceToNat, true_and, and_true, and_self, beq_iff_eq, Bool.and_eq_true, Bool.or_eq_true, or_false, false_or, or_true, true_or, and_false, false_and, hu_hr, hr_hr, hr_at, hr_nc, not_false_eq_true, Int.reduceEq, Int.pow_zero, Int.reducePow, Int.reduceMul, Int.reduceAdd, Int.reduceDiv, Int.reduceMod, Int.zero_add, Int.add_zero, Int.mul_one, Int.cast_ofNat_Int])
  exact h
set_option maxHeartbeats 4000000 in
set_option maxRecDepth 100000 in
theorem ww_win {S : Hp} {t c w : Int} {y : Option MV} {Q : Option MV → Hp → Prop} (hB : SlB (S 0 31)) (hw : 0 ≤ w ∧ w < 3) (ht : 0 ≤ t ∧ t < 600) (h : ∀ y : Option MV, Wp 175 4 [some (.inr (0, 30)), some (.inl t), some (.inl (c + wwI (S 0 31) t w (S 0 31 (8 + 15 * w)).toNat)), some (.inl (w + 1)), y] [] S Q) : Wp 175 4 [some (.inr (0, 30)), some (.inl t), some (.inl c), some (.inl w), y] [] S Q := by
  have hb := hB w hw.1 hw.2
  refine ww_head hw ?_
  obtain ⟨N, hN⟩ : ∃ N : Nat, N = (S 0 31 (8 + 15 * w)).toNat := ⟨_, rfl⟩
  rw [← hN] at h
  refine wp_for (fun j => [some (.inr (0, 30)), some (.inl t), some (.inl (c + wwI (S 0 31) t w j)), some (.inl w), some (.inl (j : Int))]) (fun _ => S) N (by simp [wwI, sm]) rfl (fun j hj h => ?_) ?_
  · refine ww_step hw hb.1.2 (by omega) ht (hb.2 j (by omega) (by omega)) ?_
    rw [Int.natCast_add] at h
    unfold wwI at h ⊢
    rw [sm_s, ← Int.add_assoc] at h
    exact h
  · exact ww_next hw hb.1 (by omega) h
set_option maxHeartbeats 4000000 in
set_option maxRecDepth 100000 in
theorem m_waitingWith {S : Hp} {t : Int} (hB : SlB (S 0 31)) (ht : 0 ≤ t ∧ t < 600) (Q : Option MV → Hp → Prop) : Wc 175 [.inr (0, 30), .inl t] S Q = Q (some (.inl (wwC (S 0 31) t))) S := by
  refine Wc_eq ?_ Q
  unfold Wc
  refine vg_sound (fun m pc => (m == 175 && pc == 4)) (fun m => m == 175) 10 _ _ _ _ _ _ ?_
  repeat' first | (with_reducible refine vT ?_ ?_; · omega) | (with_reducible refine vF ?_ ?_; · omega) | (with_reducible refine vI (fun _ => ?_) (fun _ => ?_)) | (simp (config := {maxSteps := 1000000}) only [f_X8_waitingWith, wg_0, wg_s, wK_none, wK_N, wK_C, wK_R, wQ_some, wQ_none, stR, mZ, mC, stI, ini, mL, gI, gA, sI, sA, bi, gF, pF, kF, kT, kL, c2, mT, mR, f4, tsw, lsw, tgt, inR, Nat.reduceLT, Nat.reduceLeDiff, Nat.reduceEqDiff, Nat.reduceAdd, Nat.reduceSub, ↓reduceIte, Bool.false_eq_true, List.map_cons, List.map_nil, List.length_cons, List.length_nil, List.replicate, List.cons_append, List.nil_append, List.getElem?_cons_zero, List.getElem?_cons_succ, List.set, List.take_succ_cons, List.take_zero, List.drop_succ_cons, List.drop_zero, List.reverse_cons, List.reverse_nil, Int.reduceLE, Int.reduceLT, Int.reduceNeg, Int.reduceToNat, true_and, and_true, and_self, beq_iff_eq, Bool.and_eq_true, Bool.or_eq_true, or_false, false_or, or_true, true_or, and_false, false_and, hu_hr, hr_hr, hr_at, hr_nc, not_false_eq_true, Int.reduceEq, Int.pow_zero, Int.reducePow, Int.reduceMul, Int.reduceAdd, Int.reduceDiv, Int.reduceMod, Int.zero_add, Int.add_zero, Int.mul_one, Int.cast_ofNat_Int])
  refine ww_win hB (by omega) ht (fun y => ?_)
  refine ww_win (w := 1) hB (by omega) ht (fun y => ?_)
  refine ww_win (w := 2) hB (by omega) ht (fun y => ?_)
  refine ww_end ⟨?_, rfl⟩
  unfold wwC
  simp only [Int.zero_add, Int.reduceMul, Int.reduceAdd]
def bt3 (z : Int) : Int := z % 2 + z / 2 % 2 + z / 4 % 2
set_option maxHeartbeats 4000000 in
set_option maxRecDepth 100000 in
theorem m_bits {S : Hp} {z : Int} (hz : 0 ≤ z ∧ z < 8) (Q : Option MV → Hp → Prop) : Wc 177 [.inl z] S Q = Q (some (.inl (bt3 z))) S := by
  refine Wc_eq ?_ Q
  unfold Wc
  have e1 := and1 (z := z) (by omega) (by omega)
  have e2 := and1 (z := z / 2) (by omega) (by omega)
  have e3 := and1 (z := z / 4) (by omega) (by omega)
  refine vg_sound (fun _ _ => false) (fun m => m == 177) 60 _ _ _ _ _ _ ?_
  repeat' first | (with_reducible refine vT ?_ ?_; · omega) | (with_reducible refine vF ?_ ?_; · omega) | (with_reducible refine vI (fun _ => ?_) (fun _ => ?_)) | (simp (config := {maxSteps := 1000000}) (disch := (first | assumption | omega | (rw [hr_at]; assumption) | (rw [hr_at]; omega))) only [f_X8_bits, wg_0, wg_s, wK_none, wK_N, wK_C, wK_R, wQ_some, wQ_none, stR, mZ, mC, stI, ini, mL, gI, gA, sI, sA, bi, gF, pF, kF, kT, kL, c2, mT, mR, f4, tsw, lsw, tgt, inR, Nat.reduceLT, Nat.reduceLeDiff, Nat.reduceEqDiff, Nat.reduceAdd, Nat.reduceSub, ↓reduceIte, Bool.false_eq_true, List.map_cons, List.map_nil, List.length_cons, List.length_nil, List.replicate, List.cons_append, List.nil_append, List.getElem?_cons_zero, List.getElem?_cons_succ, List.set, List.take_succ_cons, List.take_zero, List.drop_succ_cons, List.drop_zero, List.reverse_cons, List.reverse_nil, Int.reduceLE, Int.reduceLT, Int.reduceNeg, Int.reduceToNat, true_and, and_true, and_self, beq_iff_eq, Bool.and_eq_true, Bool.or_eq_true, or_false, false_or, or_true, true_or, and_false, false_and, hu_hr, hr_hr, hr_at, hr_nc, not_false_eq_true, Int.reduceEq, Int.pow_zero, Int.reducePow, Int.reduceMul, Int.reduceAdd, Int.reduceDiv, Int.reduceMod, Int.zero_add, Int.add_zero, Int.mul_one, Int.cast_ofNat_Int, e1, e2, e3])
  unfold bt3
  simp
set_option maxHeartbeats 4000000 in
set_option maxRecDepth 100000 in
theorem m_flags {S : Hp} {t f : Int} (hF : FlB (S 0 31)) (ht : 0 ≤ t ∧ t < 600) (hf : f = 2 ∨ f = 5) (Q : Option MV → Hp → Prop) : Wc 176 [.inr (0, 30), .inl t, .inl f] S Q = Q (some (.inl (S 0 31 (833 + t) / 2 ^ f.toNat % 8))) S := by
  refine Wc_eq ?_ Q
  unfold Wc
  have h1 := hF t ht.1 ht.2
  have e1 := and7 (z := S 0 31 (833 + t) / 4) (by omega) (by omega)
  have e2 := and7 (z := S 0 31 (833 + t) / 32) (by omega) (by omega)
  rcases hf with rfl | rfl
  · refine vg_sound (fun _ _ => false) (fun m => m == 176) 60 _ _ _ _ _ _ ?_
    repeat' first | (with_reducible refine vT ?_ ?_; · omega) | (with_reducible refine vF ?_ ?_; · omega) | (with_reducible refine vI (fun _ => ?_) (fun _ => ?_)) | (simp (config := {maxSteps := 1000000}) (disch := (first | assumption | omega | (rw [hr_at]; assumption) | (rw [hr_at]; omega))) only [f_X8_flags, wg_0, wg_s, wK_none, wK_N, wK_C, wK_R, wQ_some, wQ_none, stR, mZ, mC, stI, ini, mL, gI, gA, sI, sA, bi, gF, pF, kF, kT, kL, c2, mT, mR, f4, tsw, lsw, tgt, inR, Nat.reduceLT, Nat.reduceLeDiff, Nat.reduceEqDiff, Nat.reduceAdd, Nat.reduceSub, ↓reduceIte, Bool.false_eq_true, List.map_cons, List.map_nil, List.length_cons, List.length_nil, List.replicate, List.cons_append, List.nil_append, List.getElem?_cons_zero, List.getElem?_cons_succ, List.set, List.take_succ_cons, List.take_zero, List.drop_succ_cons, List.drop_zero, List.reverse_cons, List.reverse_nil, Int.reduceLE, Int.reduceLT, Int.reduceNeg, Int.reduceToNat, true_and, and_true, and_self, beq_iff_eq, Bool.and_eq_true, Bool.or_eq_true, or_false, false_or, or_true, true_or, and_false, false_and, hu_hr, hr_hr, hr_at, hr_nc, not_false_eq_true, Int.reduceEq, Int.pow_zero, Int.reducePow, Int.reduceMul, Int.reduceAdd, Int.reduceDiv, Int.reduceMod, Int.zero_add, Int.add_zero, Int.mul_one, Int.cast_ofNat_Int, e1])
  · refine vg_sound (fun _ _ => false) (fun m => m == 176) 60 _ _ _ _ _ _ ?_
    repeat' first | (with_reducible refine vT ?_ ?_; · omega) | (with_reducible refine vF ?_ ?_; · omega) | (with_reducible refine vI (fun _ => ?_) (fun _ => ?_)) | (simp (config := {maxSteps := 1000000}) (disch := (first | assumption | omega | (rw [hr_at]; assumption) | (rw [hr_at]; omega))) only [f_X8_flags, wg_0, wg_s, wK_none, wK_N, wK_C, wK_R, wQ_some, wQ_none, stR, mZ, mC, stI, ini, mL, gI, gA, sI, sA, bi, gF, pF, kF, kT, kL, c2, mT, mR, f4, tsw, lsw, tgt, inR, Nat.reduceLT, Nat.reduceLeDiff, Nat.reduceEqDiff, Nat.reduceAdd, Nat.reduceSub, ↓reduceIte, Bool.false_eq_true, List.map_cons, List.map_nil, List.length_cons, List.length_nil, List.replicate, List.cons_append, List.nil_append, List.getElem?_cons_zero, List.getElem?_cons_succ, List.set, List.take_succ_cons, List.take_zero, List.drop_succ_cons, List.drop_zero, List.reverse_cons, List.reverse_nil, Int.reduceLE, Int.reduceLT, Int.reduceNeg, Int.reduceToNat, true_and, and_true, and_self, beq_iff_eq, Bool.and_eq_true, Bool.or_eq_true, or_false, false_or, or_true, true_or, and_false, false_and, hu_hr, hr_hr, hr_at, hr_nc, not_false_eq_true, Int.reduceEq, Int.pow_zero, Int.reducePow, Int.reduceMul, Int.reduceAdd, Int.reduceDiv, Int.reduceMod, Int.zero_add, Int.add_zero, Int.mul_one, Int.cast_ofNat_Int, e2])
def tkV (M : Int → Int) (t a : Int) : Int := if 0 ≤ t ∧ t < 600 then (if a = 0 then qb M t 0 else if a = 1 then clM M t else if a = 2 then przM M t else if a = 3 then pyC M t else if a = 4 then bt3 (M (833 + t) / 32 % 8) else if a = 5 then M (833 + t) / 4 % 8 else if a = 6 then qb M t 1 else if a = 7 then wwC M t else if a = 8 then opI M t else -2) else -1
set_option maxHeartbeats 4000000 in
set_option maxRecDepth 100000 in
theorem m_ticketOf {S : Hp} {t a : Int} (hF : FlB (S 0 31)) (hW : DrW (S 0 31)) (hP : PdB (S 0 31)) (hD : DsB (S 0 31)) (hB : SlB (S 0 31)) (ht : tdR t) (ha : tdR a) (Q : Option MV → Hp → Prop) : Wc 178 [.inr (0, 30), .inl t, .inl a] S Q = Q (some (.inl (tkV (S 0 31) t a))) S := by
  refine Wc_eq ?_ Q
  unfold Wc
  unfold tdR at ht ha
  unfold tkV
  by_cases h : 0 ≤ t ∧ t < 600
  · rw [if_pos h]
    have q0 := qb_01 (S 0 31) t 0
    have q1 := qb_01 (S 0 31) t 1
    have d1 := hD t h.1 h.2
    have e32 := m_flags (S := S) (t := t) (f := 5) hF h (Or.inr rfl)
    have e4 := m_flags (S := S) (t := t) (f := 2) hF h (Or.inl rfl)
    simp only [Int.reduceToNat, Int.reducePow] at e32 e4
    have hb := fun Q => m_bits (S := S) (z := S 0 31 (833 + t) / 32 % 8) (by omega) Q
    refine vg_sound (fun _ _ => false) (fun m => m == 178 || m == 114 || m == 109) 80 _ _ _ _ _ _ ?_
    repeat' first | (with_reducible refine vT ?_ ?_; · omega) | (with_reducible refine vF ?_ ?_; · omega) | (with_reducible refine vI (fun _ => ?_) (fun _ => ?_)) | (simp (config := {maxSteps := 1000000}) (disch := (first | assumption | omega | (rw [hr_at]; assumption) | (rw [hr_at]; omega))) only [f_X8_ticketOf, f_X8_isTicket, f_X8_in, wg_0, wg_s, wK_none, wK_N, wK_C, wK_R, wQ_some, wQ_none, stR, mZ, mC, stI, ini, mL, gI, gA, sI, sA, bi, gF, pF, kF, kT, kL, c2, mT, mR, f4, tsw, lsw, tgt, inR, Nat.reduceLT, Nat.reduceLeDiff, Nat.reduceEqDiff, Nat.reduceAdd, Nat.reduceSub, ↓reduceIte, Bool.false_eq_true, List.map_cons, List.map_nil, List.length_cons, List.length_nil, List.replicate, List.cons_append, List.nil_append, List.getElem?_cons_zero, List.getElem?_cons_succ, List.set, List.take_succ_cons, List.take_zero, List.drop_succ_cons, List.drop_zero, List.reverse_cons, List.reverse_nil, Int.reduceLE, Int.reduceLT, Int.reduceNeg, Int.reduceToNat, true_and, and_true, and_self, beq_iff_eq, Bool.and_eq_true, Bool.or_eq_true, or_false, false_or, or_true, true_or, and_false, false_and, hu_hr, hr_hr, hr_at, hr_nc, not_false_eq_true, Int.reduceEq, Int.pow_zero, Int.reducePow, Int.reduceMul, Int.reduceAdd, Int.reduceDiv, Int.reduceMod, Int.zero_add, Int.add_zero, Int.mul_one, Int.cast_ofNat_Int, m_is, m_classOf, m_prize, m_payments, e32, e4, hb, m_waitingWith, hF, hW, hP, hB])
    all_goals (repeat (first | rw [if_pos (by omega)] | rw [if_neg (by omega)]))
    all_goals (try unfold opI)
    all_goals (repeat (first | rw [if_pos (by omega)] | rw [if_neg (by omega)]))
    all_goals (first | trivial | (simp only [Option.some.injEq, Sum.inl.injEq]; omega))
  · rw [if_neg h]
    refine vg_sound (fun _ _ => false) (fun m => m == 178 || m == 114 || m == 109) 80 _ _ _ _ _ _ ?_
    repeat' first | (with_reducible refine vT ?_ ?_; · omega) | (with_reducible refine vF ?_ ?_; · omega) | (with_reducible refine vI (fun _ => ?_) (fun _ => ?_)) | (simp (config := {maxSteps := 1000000}) (disch := (first | assumption | omega | (rw [hr_at]; assumption) | (rw [hr_at]; omega))) only [f_X8_ticketOf, f_X8_isTicket, f_X8_in, wg_0, wg_s, wK_none, wK_N, wK_C, wK_R, wQ_some, wQ_none, stR, mZ, mC, stI, ini, mL, gI, gA, sI, sA, bi, gF, pF, kF, kT, kL, c2, mT, mR, f4, tsw, lsw, tgt, inR, Nat.reduceLT, Nat.reduceLeDiff, Nat.reduceEqDiff, Nat.reduceAdd, Nat.reduceSub, ↓reduceIte, Bool.false_eq_true, List.map_cons, List.map_nil, List.length_cons, List.length_nil, List.replicate, List.cons_append, List.nil_append, List.getElem?_cons_zero, List.getElem?_cons_succ, List.set, List.take_succ_cons, List.take_zero, List.drop_succ_cons, List.drop_zero, List.reverse_cons, List.reverse_nil, Int.reduceLE, Int.reduceLT, Int.reduceNeg, Int.reduceToNat, true_and, and_true, and_self, beq_iff_eq, Bool.and_eq_true, Bool.or_eq_true, or_false, false_or, or_true, true_or, and_false, false_and, hu_hr, hr_hr, hr_at, hr_nc, not_false_eq_true, Int.reduceEq, Int.pow_zero, Int.reducePow, Int.reduceMul, Int.reduceAdd, Int.reduceDiv, Int.reduceMod, Int.zero_add, Int.add_zero, Int.mul_one, Int.cast_ofNat_Int])
    all_goals (first | trivial | exact ⟨rfl, rfl⟩)
