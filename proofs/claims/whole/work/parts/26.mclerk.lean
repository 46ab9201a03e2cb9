/-! THE REFERENCE's row: the windows act, the clerk settles -/
set_option maxHeartbeats 4000000 in
set_option maxRecDepth 100000 in
theorem af_ne {M : Int → Int} {w r j : Int} (h : j ≤ 8 + 15 * w + 8 ∨ 8 + 15 * w + 14 < j) : awM (frM M w) w r j = M j := by
  simp only [awM, frM]
  repeat rw [up_ne (by omega)]
set_option maxHeartbeats 4000000 in
set_option maxRecDepth 100000 in
theorem af_9 (M : Int → Int) (w r : Int) : awM (frM M w) w r (8 + 15 * w + 9) = 0 := by
  simp only [awM, frM]
  rw [up_ne (by omega), up_ne (by omega), up_ne (by omega), up_eq rfl]
def wa1 (M : Int → Int) (w : Int) : Int → Int := if 0 < M (8 + 15 * w + 9) ∧ M 7 ≤ M (8 + 15 * w + 10) then awM (frM M w) w 6 else M
def waM (M : Int → Int) (w : Int) : Int → Int := if wa1 M w (8 + 15 * w + 9) = 0 ∧ 0 < wa1 M w (8 + 15 * w) then svM (wa1 M w) w else wa1 M w
set_option maxHeartbeats 4000000 in
set_option maxRecDepth 100000 in
theorem act_step {S : Hp} {w : Int} {Q : Option MV → Hp → Prop} (hF : FlB (S 0 31)) (hW : DrW (S 0 31)) (h5 : 0 ≤ S 0 31 5 ∧ S 0 31 5 ≤ 2) (hn : 0 ≤ S 0 31 2 ∧ S 0 31 2 < 255) (hw : 0 ≤ w ∧ w < 3) (ht : 0 ≤ S 0 31 (8 + 15 * w + 1) ∧ S 0 31 (8 + 15 * w + 1) < 600)
    (h7 : 0 ≤ S 0 31 7 ∧ S 0 31 7 < 2147483648) (h9 : 0 ≤ S 0 31 (8 + 15 * w + 9) ∧ S 0 31 (8 + 15 * w + 9) ≤ 600) (h10 : 0 ≤ S 0 31 (8 + 15 * w + 10) ∧ S 0 31 (8 + 15 * w + 10) < 2147483648) (hz : 0 ≤ S 0 31 (8 + 15 * w) ∧ S 0 31 (8 + 15 * w) ≤ 8)
    (h : Wp 140 2 [some (.inr (0, 30)), some (.inl (w + 1))] [] (hr S 0 31 (waM (S 0 31) w)) Q) : Wp 140 2 [some (.inr (0, 30)), some (.inl w)] [] S Q := by
  have hF1 : FlB (awM (frM (S 0 31) w) w 6) := fun t h1 h2 => by rw [af_ne (by omega)]; exact hF t h1 h2
  have hW1 : DrW (awM (frM (S 0 31) w) w 6) := fun t h1 h2 => by rw [af_ne (by omega), af_ne (by omega)]; exact hW t h1 h2
  have e5 := af_ne (M := S 0 31) (w := w) (r := 6) (j := 5) (by omega)
  have e2 := af_ne (M := S 0 31) (w := w) (r := 6) (j := 2) (by omega)
  have e0 := af_ne (M := S 0 31) (w := w) (r := 6) (j := 8 + 15 * w) (by omega)
  have e1 := af_ne (M := S 0 31) (w := w) (r := 6) (j := 8 + 15 * w + 1) (by omega)
  have e9 := af_9 (S 0 31) w 6
  refine vg_cut (fun m pc => (m == 140 && pc == 2)) (fun m => m == 140 || m == 117) 120 _ _ _ _ _ _ ?_
  repeat' first | (with_reducible refine vT ?_ ?_; · omega) | (with_reducible refine vF ?_ ?_; · omega) | (with_reducible refine vI (fun _ => ?_) (fun _ => ?_)) | (simp (config := {maxSteps := 1000000}) (disch := (first | assumption | omega | (rw [hr_at]; assumption) | (rw [hr_at]; omega))) only [f_X8_windowsAct, f_X8_at, wg_0, wg_s, wK_none, wK_N, wK_C, wK_R, wQ_some, wQ_none, stR, mZ, mC, stI, ini, mL, gI, gA, sI, sA, bi, gF, pF, kF, kT, kL, c2, mT, mR, f4, tsw, lsw, tgt, inR, Nat.reduceLT, Nat.reduceLeDiff, Nat.reduceEqDiff, Nat.reduceAdd, Nat.reduceSub, ↓reduceIte, Bool.false_eq_true, List.map_cons, List.map_nil, List.length_cons, List.length_nil, List.replicate, List.cons_append, List.nil_append, List.getElem?_cons_zero, List.getElem?_cons_succ, List.set, List.take_succ_cons, List.take_zero, List.drop_succ_cons, List.drop_zero, List.reverse_cons, List.reverse_nil, Int.reduceLE, Int.reduceLT, Int.reduceNeg, Int.reduceToNat, true_and, and_true, and_self, beq_iff_eq, Bool.and_eq_true, Bool.or_eq_true, or_false, false_or, or_true, true_or, and_false, false_and, hu_hr, hr_hr, hr_at, hr_nc, not_false_eq_true, Int.reduceEq, Int.pow_zero, Int.reducePow, Int.reduceMul, Int.reduceAdd, Int.reduceDiv, Int.reduceMod, Int.zero_add, Int.add_zero, Int.mul_one, m_free, m_sendAway, m_serve, hF, hW])
  all_goals unfold waM at h
  all_goals (first | rw [show wa1 (S 0 31) w = awM (frM (S 0 31) w) w 6 from if_pos (by omega)] at h | rw [show wa1 (S 0 31) w = S 0 31 from if_neg (by omega)] at h)
  all_goals (repeat (first | rw [if_pos (by omega)] at h | rw [if_neg (by omega)] at h))
  all_goals (first | exact h | (rw [hr_id] at h; exact h))
set_option maxHeartbeats 4000000 in
set_option maxRecDepth 100000 in
theorem act_end {S : Hp} {Q : Option MV → Hp → Prop} (h : Q none S) : Wp 140 2 [some (.inr (0, 30)), some (.inl 3)] [] S Q := by
  refine vg_cut (fun m pc => (m == 140 && pc == 2)) (fun m => m == 140) 40 _ _ _ _ _ _ ?_
  repeat' first | (with_reducible refine vT ?_ ?_; · omega) | (with_reducible refine vF ?_ ?_; · omega) | (with_reducible refine vI (fun _ => ?_) (fun _ => ?_)) | (simp (config := {maxSteps := 1000000}) only [f_X8_windowsAct, wg_0, wg_s, wK_none, wK_N, wK_C, wK_R, wQ_some, wQ_none, stR, mZ, mC, stI, ini, mL, gI, gA, sI, sA, bi, gF, pF, kF, kT, kL, c2, mT, mR, f4, tsw, lsw, tgt, inR, Nat.reduceLT, Nat.reduceLeDiff, Nat.reduceEqDiff, Nat.reduceAdd, Nat.reduceSub, ↓reduceIte, Bool.false_eq_true, List.map_cons, List.map_nil, List.length_cons, List.length_nil, List.replicate, List.cons_append, List.nil_append, List.getElem?_cons_zero, List.getElem?_cons_succ, List.set, List.take_succ_cons, List.take_zero, List.drop_succ_cons, List.drop_zero, List.reverse_cons, List.reverse_nil, Int.reduceLE, Int.reduceLT, Int.reduceNeg, Int.reduceToNat, true_and, and_true, and_self, beq_iff_eq, Bool.and_eq_true, Bool.or_eq_true, or_false, false_or, or_true, true_or, and_false, false_and, hu_hr, hr_hr, hr_at, hr_nc, not_false_eq_true, Int.reduceEq, Int.pow_zero, Int.reducePow, Int.reduceMul, Int.reduceAdd, Int.reduceDiv, Int.reduceMod, Int.zero_add, Int.add_zero, Int.mul_one])
  exact h
/- the clerk: the first dispute -/
def fdM (M : Int → Int) : Nat → Int
  | 0 => -5
  | k + 1 => if 0 < M (1433 + (k : Int)) ∧ (fdM M k = -5 ∨ M (1433 + (k : Int)) < M (1433 + fdM M k)) then (k : Int) else fdM M k
set_option maxHeartbeats 4000000 in
set_option maxRecDepth 100000 in
theorem fdM_b (M : Int → Int) : ∀ k : Nat, fdM M k = -5 ∨ (0 ≤ fdM M k ∧ fdM M k < k) := by
  intro k
  induction k with
  | zero => exact Or.inl rfl
  | succ k ih =>
    unfold fdM
    split
    · right
      omega
    · omega
set_option maxHeartbeats 4000000 in
set_option maxRecDepth 100000 in
theorem first_step {S : Hp} {z b : Int} {Q : Option MV → Hp → Prop} (hD : DsB (S 0 31)) (hz : 0 ≤ z ∧ z < 600) (hb : b = -5 ∨ (0 ≤ b ∧ b < z))
    (h : Wp 141 5 [some (.inr (0, 30)), some (.inl (if 0 < S 0 31 (1433 + z) ∧ (b = -5 ∨ S 0 31 (1433 + z) < S 0 31 (1433 + b)) then z else b)), some (.inl (z + 1))] [] S Q) : Wp 141 5 [some (.inr (0, 30)), some (.inl b), some (.inl z)] [] S Q := by
  have hd := hD z hz.1 hz.2
  have hd2 : b = -5 ∨ (0 ≤ S 0 31 (1433 + b) ∧ S 0 31 (1433 + b) < 2147483648) := by
    rcases hb with e | e
    · exact Or.inl e
    · exact Or.inr (hD b (by omega) (by omega))
  refine vg_cut (fun m pc => (m == 141 && pc == 5)) (fun m => m == 141) 60 _ _ _ _ _ _ ?_
  repeat' first | (with_reducible refine vT ?_ ?_; · omega) | (with_reducible refine vF ?_ ?_; · omega) | (with_reducible refine vI (fun _ => ?_) (fun _ => ?_)) | (simp (config := {maxSteps := 1000000}) (disch := (first | assumption | omega | (rw [hr_at]; assumption) | (rw [hr_at]; omega))) only [f_X8_firstDispute, wg_0, wg_s, wK_none, wK_N, wK_C, wK_R, wQ_some, wQ_none, stR, mZ, mC, stI, ini, mL, gI, gA, sI, sA, bi, gF, pF, kF, kT, kL, c2, mT, mR, f4, tsw, lsw, tgt, inR, Nat.reduceLT, Nat.reduceLeDiff, Nat.reduceEqDiff, Nat.reduceAdd, Nat.reduceSub, ↓reduceIte, Bool.false_eq_true, List.map_cons, List.map_nil, List.length_cons, List.length_nil, List.replicate, List.cons_append, List.nil_append, List.getElem?_cons_zero, List.getElem?_cons_succ, List.set, List.take_succ_cons, List.take_zero, List.drop_succ_cons, List.drop_zero, List.reverse_cons, List.reverse_nil, Int.reduceLE, Int.reduceLT, Int.reduceNeg, Int.reduceToNat, true_and, and_true, and_self, beq_iff_eq, Bool.and_eq_true, Bool.or_eq_true, or_false, false_or, or_true, true_or, and_false, false_and, hu_hr, hr_hr, hr_at, hr_nc, not_false_eq_true, Int.reduceEq, Int.pow_zero, Int.reducePow, Int.reduceMul, Int.reduceAdd, Int.reduceDiv, Int.reduceMod, Int.zero_add, Int.add_zero, Int.mul_one])
  all_goals (first | rw [if_pos (by omega)] at h | rw [if_neg (by omega)] at h)
  all_goals exact h
set_option maxHeartbeats 4000000 in
set_option maxRecDepth 100000 in
theorem first_end {S : Hp} {b : Int} {Q : Option MV → Hp → Prop} (h : Q (some (.inl b)) S) : Wp 141 5 [some (.inr (0, 30)), some (.inl b), some (.inl 600)] [] S Q := by
  refine vg_cut (fun m pc => (m == 141 && pc == 5)) (fun m => m == 141) 40 _ _ _ _ _ _ ?_
  repeat' first | (with_reducible refine vT ?_ ?_; · omega) | (with_reducible refine vF ?_ ?_; · omega) | (with_reducible refine vI (fun _ => ?_) (fun _ => ?_)) | (simp (config := {maxSteps := 1000000}) only [f_X8_firstDispute, wg_0, wg_s, wK_none, wK_N, wK_C, wK_R, wQ_some, wQ_none, stR, mZ, mC, stI, ini, mL, gI, gA, sI, sA, bi, gF, pF, kF, kT, kL, c2, mT, mR, f4, tsw, lsw, tgt, inR, Nat.reduceLT, Nat.reduceLeDiff, Nat.reduceEqDiff, Nat.reduceAdd, Nat.reduceSub, ↓reduceIte, Bool.false_eq_true, List.map_cons, List.map_nil, List.length_cons, List.length_nil, List.replicate, List.cons_append, List.nil_append, List.getElem?_cons_zero, List.getElem?_cons_succ, List.set, List.take_succ_cons, List.take_zero, List.drop_succ_cons, List.drop_zero, List.reverse_cons, List.reverse_nil, Int.reduceLE, Int.reduceLT, Int.reduceNeg, Int.reduceToNat, true_and, and_true, and_self, beq_iff_eq, Bool.and_eq_true, Bool.or_eq_true, or_false, false_or, or_true, true_or, and_false, false_and, hu_hr, hr_hr, hr_at, hr_nc, not_false_eq_true, Int.reduceEq, Int.pow_zero, Int.reducePow, Int.reduceMul, Int.reduceAdd, Int.reduceDiv, Int.reduceMod, Int.zero_add, Int.add_zero, Int.mul_one])
  exact h
set_option maxHeartbeats 4000000 in
set_option maxRecDepth 100000 in
theorem m_firstDispute {S : Hp} (hD : DsB (S 0 31)) (Q : Option MV → Hp → Prop) : Wc 141 [.inr (0, 30)] S Q = Q (some (.inl (fdM (S 0 31) 600))) S := by
  refine Wc_eq ?_ Q
  unfold Wc
  refine vg_sound (fun m pc => (m == 141 && pc == 5)) (fun m => m == 141) 10 _ _ _ _ _ _ ?_
  repeat' first | (with_reducible refine vT ?_ ?_; · omega) | (with_reducible refine vF ?_ ?_; · omega) | (with_reducible refine vI (fun _ => ?_) (fun _ => ?_)) | (simp (config := {maxSteps := 1000000}) only [f_X8_firstDispute, wg_0, wg_s, wK_none, wK_N, wK_C, wK_R, wQ_some, wQ_none, stR, mZ, mC, stI, ini, mL, gI, gA, sI, sA, bi, gF, pF, kF, kT, kL, c2, mT, mR, f4, tsw, lsw, tgt, inR, Nat.reduceLT, Nat.reduceLeDiff, Nat.reduceEqDiff, Nat.reduceAdd, Nat.reduceSub, ↓reduceIte, Bool.false_eq_true, List.map_cons, List.map_nil, List.length_cons, List.length_nil, List.replicate, List.cons_append, List.nil_append, List.getElem?_cons_zero, List.getElem?_cons_succ, List.set, List.take_succ_cons, List.take_zero, List.drop_succ_cons, List.drop_zero, List.reverse_cons, List.reverse_nil, Int.reduceLE, Int.reduceLT, Int.reduceNeg, Int.reduceToNat, true_and, and_true, and_self, beq_iff_eq, Bool.and_eq_true, Bool.or_eq_true, or_false, false_or, or_true, true_or, and_false, false_and, hu_hr, hr_hr, hr_at, hr_nc, not_false_eq_true, Int.reduceEq, Int.pow_zero, Int.reducePow, Int.reduceMul, Int.reduceAdd, Int.reduceDiv, Int.reduceMod, Int.zero_add, Int.add_zero, Int.mul_one])
  obtain ⟨N, hN⟩ : ∃ N : Nat, N = 600 := ⟨_, rfl⟩
  rw [← hN]
  refine wp_for (fun j => [some (.inr (0, 30)), some (.inl (fdM (S 0 31) j)), some (.inl (j : Int))]) (fun _ => S) N rfl rfl (fun j hj h => ?_) ?_
  · have hb := fdM_b (S 0 31) j
    refine first_step hD (by omega) hb ?_
    rw [Int.natCast_add] at h
    exact h
  · have e : (N : Int) = 600 := by omega
    rw [e]
    exact first_end ⟨rfl, rfl⟩
def cnI (M : Int → Int) (w t : Int) : Int := if 0 < M (2033 + 600 * w + t) ∧ qb M t (5 + w).toNat = 0 then 1 else 0
set_option maxHeartbeats 4000000 in
set_option maxRecDepth 100000 in
theorem cn_01 (M : Int → Int) (w t : Int) : cnI M w t = 0 ∨ cnI M w t = 1 := by
  unfold cnI
  split <;> omega
set_option maxHeartbeats 4000000 in
set_option maxRecDepth 100000 in
theorem m_counts {S : Hp} {w t : Int} (hF : FlB (S 0 31)) (hP : PdB (S 0 31)) (hw : 0 ≤ w ∧ w < 3) (ht : 0 ≤ t ∧ t < 600) (Q : Option MV → Hp → Prop) : Wc 142 [.inr (0, 30), .inl w, .inl t] S Q = Q (some (.inl (cnI (S 0 31) w t))) S := by
  refine Wc_eq ?_ Q
  unfold Wc
  have h1 := hP w t hw.1 hw.2 ht.1 ht.2
  have hq := qb_01 (S 0 31) t (5 + w).toNat
  refine vg_sound (fun _ _ => false) (fun m => m == 142 || m == 120) 80 _ _ _ _ _ _ ?_
  repeat' first | (with_reducible refine vT ?_ ?_; · omega) | (with_reducible refine vF ?_ ?_; · omega) | (with_reducible refine vI (fun _ => ?_) (fun _ => ?_)) | (simp (config := {maxSteps := 1000000}) (disch := (first | assumption | omega | (rw [hr_at]; assumption) | (rw [hr_at]; omega))) only [f_X8_counts, f_X8_paidAt, wg_0, wg_s, wK_none, wK_N, wK_C, wK_R, wQ_some, wQ_none, stR, mZ, mC, stI, ini, mL, gI, gA, sI, sA, bi, gF, pF, kF, kT, kL, c2, mT, mR, f4, tsw, lsw, tgt, inR, Nat.reduceLT, Nat.reduceLeDiff, Nat.reduceEqDiff, Nat.reduceAdd, Nat.reduceSub, ↓reduceIte, Bool.false_eq_true, List.map_cons, List.map_nil, List.length_cons, List.length_nil, List.replicate, List.cons_append, List.nil_append, List.getElem?_cons_zero, List.getElem?_cons_succ, List.set, List.take_succ_cons, List.take_zero, List.drop_succ_cons, List.drop_zero, List.reverse_cons, List.reverse_nil, Int.reduceLE, Int.reduceLT, Int.reduceNeg, Int.reduceToNat, true_and, and_true, and_self, beq_iff_eq, Bool.and_eq_true, Bool.or_eq_true, or_false, false_or, or_true, true_or, and_false, false_and, hu_hr, hr_hr, hr_at, hr_nc, not_false_eq_true, Int.reduceEq, Int.pow_zero, Int.reducePow, Int.reduceMul, Int.reduceAdd, Int.reduceDiv, Int.reduceMod, Int.zero_add, Int.add_zero, Int.mul_one, m_is, hF])
  all_goals unfold cnI
  all_goals (repeat (first | rw [if_pos (by omega)] | rw [if_neg (by omega)]))
def bsM (M : Int → Int) (t : Int) : Nat → Int
  | 0 => -5
  | k + 1 => if cnI M (k : Int) t = 1 ∧ (bsM M t k = -5 ∨ M (2033 + 600 * (k : Int) + t) < M (2033 + 600 * bsM M t k + t)) then (k : Int) else bsM M t k
set_option maxHeartbeats 4000000 in
set_option maxRecDepth 100000 in
theorem bs_b (M : Int → Int) (t : Int) : ∀ k : Nat, bsM M t k = -5 ∨ (0 ≤ bsM M t k ∧ bsM M t k < k) := by
  intro k
  induction k with
  | zero => exact Or.inl rfl
  | succ k ih =>
    unfold bsM
    split
    · right
      omega
    · omega
set_option maxHeartbeats 4000000 in
set_option maxRecDepth 100000 in
theorem best_step {S : Hp} {z b t : Int} {Q : Option MV → Hp → Prop} (hF : FlB (S 0 31)) (hP : PdB (S 0 31)) (ht : 0 ≤ t ∧ t < 600) (hz : 0 ≤ z ∧ z < 3) (hb : b = -5 ∨ (0 ≤ b ∧ b < z))
    (h : Wp 143 28 [some (.inr (0, 30)), some (.inl t), some (.inl (if cnI (S 0 31) z t = 1 ∧ (b = -5 ∨ S 0 31 (2033 + 600 * z + t) < S 0 31 (2033 + 600 * b + t)) then z else b)), some (.inl (z + 1))] [] S Q) : Wp 143 28 [some (.inr (0, 30)), some (.inl t), some (.inl b), some (.inl z)] [] S Q := by
  have hd := hP z t hz.1 hz.2 ht.1 ht.2
  have hc := cn_01 (S 0 31) z t
  have hd2 : b = -5 ∨ (0 ≤ S 0 31 (2033 + 600 * b + t) ∧ S 0 31 (2033 + 600 * b + t) < 2147483648) := by
    rcases hb with e | e
    · exact Or.inl e
    · exact Or.inr (hP b t (by omega) (by omega) ht.1 ht.2)
  refine vg_cut (fun m pc => (m == 143 && pc == 28)) (fun m => m == 143 || m == 120) 60 _ _ _ _ _ _ ?_
  repeat' first | (with_reducible refine vT ?_ ?_; · omega) | (with_reducible refine vF ?_ ?_; · omega) | (with_reducible refine vI (fun _ => ?_) (fun _ => ?_)) | (simp (config := {maxSteps := 1000000}) (disch := (first | assumption | omega | (rw [hr_at]; assumption) | (rw [hr_at]; omega))) only [f_X8_clerkSettles, f_X8_paidAt, wg_0, wg_s, wK_none, wK_N, wK_C, wK_R, wQ_some, wQ_none, stR, mZ, mC, stI, ini, mL, gI, gA, sI, sA, bi, gF, pF, kF, kT, kL, c2, mT, mR, f4, tsw, lsw, tgt, inR, Nat.reduceLT, Nat.reduceLeDiff, Nat.reduceEqDiff, Nat.reduceAdd, Nat.reduceSub, ↓reduceIte, Bool.false_eq_true, List.map_cons, List.map_nil, List.length_cons, List.length_nil, List.replicate, List.cons_append, List.nil_append, List.getElem?_cons_zero, List.getElem?_cons_succ, List.set, List.take_succ_cons, List.take_zero, List.drop_succ_cons, List.drop_zero, List.reverse_cons, List.reverse_nil, Int.reduceLE, Int.reduceLT, Int.reduceNeg, Int.reduceToNat, true_and, and_true, and_self, beq_iff_eq, Bool.and_eq_true, Bool.or_eq_true, or_false, false_or, or_true, true_or, and_false, false_and, hu_hr, hr_hr, hr_at, hr_nc, not_false_eq_true, Int.reduceEq, Int.pow_zero, Int.reducePow, Int.reduceMul, Int.reduceAdd, Int.reduceDiv, Int.reduceMod, Int.zero_add, Int.add_zero, Int.mul_one, m_counts, hF, hP])
  all_goals (first | rw [if_pos (by omega)] at h | rw [if_neg (by omega)] at h)
  all_goals exact h
set_option maxHeartbeats 4000000 in
set_option maxRecDepth 100000 in
theorem best_end {S : Hp} {t b : Int} {Q : Option MV → Hp → Prop} (h : Wp 143 73 [some (.inr (0, 30)), some (.inl t), some (.inl b), some (.inl 0)] [] S Q) : Wp 143 28 [some (.inr (0, 30)), some (.inl t), some (.inl b), some (.inl 3)] [] S Q := by
  refine vg_cut (fun m pc => (m == 143 && pc == 28) || (m == 143 && pc == 73)) (fun m => m == 143) 40 _ _ _ _ _ _ ?_
  repeat' first | (with_reducible refine vT ?_ ?_; · omega) | (with_reducible refine vF ?_ ?_; · omega) | (with_reducible refine vI (fun _ => ?_) (fun _ => ?_)) | (simp (config := {maxSteps := 1000000}) only [f_X8_clerkSettles, wg_0, wg_s, wK_none, wK_N, wK_C, wK_R, wQ_some, wQ_none, stR, mZ, mC, stI, ini, mL, gI, gA, sI, sA, bi, gF, pF, kF, kT, kL, c2, mT, mR, f4, tsw, lsw, tgt, inR, Nat.reduceLT, Nat.reduceLeDiff, Nat.reduceEqDiff, Nat.reduceAdd, Nat.reduceSub, ↓reduceIte, Bool.false_eq_true, List.map_cons, List.map_nil, List.length_cons, List.length_nil, List.replicate, List.cons_append, List.nil_append, List.getElem?_cons_zero, List.getElem?_cons_succ, List.set, List.take_succ_cons, List.take_zero, List.drop_succ_cons, List.drop_zero, List.reverse_cons, List.reverse_nil, Int.reduceLE, Int.reduceLT, Int.reduceNeg, Int.reduceToNat, true_and, and_true, and_self, beq_iff_eq, Bool.and_eq_true, Bool.or_eq_true, or_false, false_or, or_true, true_or, and_false, false_and, hu_hr, hr_hr, hr_at, hr_nc, not_false_eq_true, Int.reduceEq, Int.pow_zero, Int.reducePow, Int.reduceMul, Int.reduceAdd, Int.reduceDiv, Int.reduceMod, Int.zero_add, Int.add_zero, Int.mul_one])
  exact h
def stM (M : Int → Int) (z t b : Int) : Int → Int := if ¬ z = b ∧ cnI M z t = 1 then up (mkM M t (5 + z).toNat 1) 3 (mkM M t (5 + z).toNat 1 3 + przM (mkM M t (5 + z).toNat 1) t) else M
set_option maxHeartbeats 4000000 in
set_option maxRecDepth 100000 in
theorem st_ne {M : Int → Int} {z t b j : Int} (h : ¬ j = 3) (h2 : ¬ j = 833 + t) : stM M z t b j = M j := by
  unfold stM
  split
  · rw [up_ne h, mk_ne h2]
  · rfl
set_option maxHeartbeats 4000000 in
set_option maxRecDepth 100000 in
theorem FlB_st {M : Int → Int} {z t b : Int} (hF : FlB M) (hz : 0 ≤ z ∧ z < 3) : FlB (stM M z t b) := by
  unfold stM
  split
  · exact FlB_up (FlB_mk hF (by omega) (Or.inr rfl)) (by omega)
  · exact hF
set_option maxHeartbeats 4000000 in
set_option maxRecDepth 100000 in
theorem settle_step {S : Hp} {z b t : Int} {Q : Option MV → Hp → Prop} (hF : FlB (S 0 31)) (hP : PdB (S 0 31)) (hW : DrW (S 0 31)) (ht : 0 ≤ t ∧ t < 600) (hz : 0 ≤ z ∧ z < 3) (hb : -5 ≤ b ∧ b < 3)
    (h : Wp 143 73 [some (.inr (0, 30)), some (.inl t), some (.inl b), some (.inl (z + 1))] [] (hr S 0 31 (stM (S 0 31) z t b)) Q) : Wp 143 73 [some (.inr (0, 30)), some (.inl t), some (.inl b), some (.inl z)] [] S Q := by
  have hc := cn_01 (S 0 31) z t
  have hF1 : FlB (mkM (S 0 31) t (5 + z).toNat 1) := FlB_mk hF (by omega) (Or.inr rfl)
  have hW1 : DrW (mkM (S 0 31) t (5 + z).toNat 1) := fun d h1 h2 => by rw [mk_ne (by omega), mk_ne (by omega)]; exact hW d h1 h2
  refine vg_cut (fun m pc => (m == 143 && pc == 73)) (fun m => m == 143) 80 _ _ _ _ _ _ ?_
  repeat' first | (with_reducible refine vT ?_ ?_; · omega) | (with_reducible refine vF ?_ ?_; · omega) | (with_reducible refine vI (fun _ => ?_) (fun _ => ?_)) | (simp (config := {maxSteps := 1000000}) (disch := (first | assumption | omega | (rw [hr_at]; assumption) | (rw [hr_at]; omega))) only [f_X8_clerkSettles, wg_0, wg_s, wK_none, wK_N, wK_C, wK_R, wQ_some, wQ_none, stR, mZ, mC, stI, ini, mL, gI, gA, sI, sA, bi, gF, pF, kF, kT, kL, c2, mT, mR, f4, tsw, lsw, tgt, inR, Nat.reduceLT, Nat.reduceLeDiff, Nat.reduceEqDiff, Nat.reduceAdd, Nat.reduceSub, ↓reduceIte, Bool.false_eq_true, List.map_cons, List.map_nil, List.length_cons, List.length_nil, List.replicate, List.cons_append, List.nil_append, List.getElem?_cons_zero, List.getElem?_cons_succ, List.set, List.take_succ_cons, List.take_zero, List.drop_succ_cons, List.drop_zero, List.reverse_cons, List.reverse_nil, Int.reduceLE, Int.reduceLT, Int.reduceNeg, Int.reduceToNat, true_and, and_true, and_self, beq_iff_eq, Bool.and_eq_true, Bool.or_eq_true, or_false, false_or, or_true, true_or, and_false, false_and, hu_hr, hr_hr, hr_at, hr_nc, not_false_eq_true, Int.reduceEq, Int.pow_zero, Int.reducePow, Int.reduceMul, Int.reduceAdd, Int.reduceDiv, Int.reduceMod, Int.zero_add, Int.add_zero, Int.mul_one, m_counts, m_mark, m_prize, hF, hP, hW])
  all_goals unfold stM at h
  all_goals (first | rw [if_pos (by omega)] at h | (rw [if_neg (by omega)] at h; rw [hr_id] at h))
  all_goals exact h
set_option maxHeartbeats 4000000 in
set_option maxRecDepth 100000 in
theorem settle_end {S : Hp} {t b : Int} {Q : Option MV → Hp → Prop} (h : Q none S) : Wp 143 73 [some (.inr (0, 30)), some (.inl t), some (.inl b), some (.inl 3)] [] S Q := by
  refine vg_cut (fun m pc => (m == 143 && pc == 73)) (fun m => m == 143) 40 _ _ _ _ _ _ ?_
  repeat' first | (with_reducible refine vT ?_ ?_; · omega) | (with_reducible refine vF ?_ ?_; · omega) | (with_reducible refine vI (fun _ => ?_) (fun _ => ?_)) | (simp (config := {maxSteps := 1000000}) only [f_X8_clerkSettles, wg_0, wg_s, wK_none, wK_N, wK_C, wK_R, wQ_some, wQ_none, stR, mZ, mC, stI, ini, mL, gI, gA, sI, sA, bi, gF, pF, kF, kT, kL, c2, mT, mR, f4, tsw, lsw, tgt, inR, Nat.reduceLT, Nat.reduceLeDiff, Nat.reduceEqDiff, Nat.reduceAdd, Nat.reduceSub, ↓reduceIte, Bool.false_eq_true, List.map_cons, List.map_nil, List.length_cons, List.length_nil, List.replicate, List.cons_append, List.nil_append, List.getElem?_cons_zero, List.getElem?_cons_succ, List.set, List.take_succ_cons, List.take_zero, List.drop_succ_cons, List.drop_zero, List.reverse_cons, List.reverse_nil, Int.reduceLE, Int.reduceLT, Int.reduceNeg, Int.reduceToNat, true_and, and_true, and_self, beq_iff_eq, Bool.and_eq_true, Bool.or_eq_true, or_false, false_or, or_true, true_or, and_false, false_and, hu_hr, hr_hr, hr_at, hr_nc, not_false_eq_true, Int.reduceEq, Int.pow_zero, Int.reducePow, Int.reduceMul, Int.reduceAdd, Int.reduceDiv, Int.reduceMod, Int.zero_add, Int.add_zero, Int.mul_one])
  exact h
set_option maxHeartbeats 4000000 in
set_option maxRecDepth 100000 in
theorem clerk_best {S : Hp} {t : Int} {Q : Option MV → Hp → Prop} (hF : FlB (S 0 31)) (hP : PdB (S 0 31)) (ht : 0 ≤ t ∧ t < 600) (h : Wp 143 73 [some (.inr (0, 30)), some (.inl t), some (.inl (bsM (S 0 31) t 3)), some (.inl 0)] [] S Q) : Wp 143 28 [some (.inr (0, 30)), some (.inl t), some (.inl (-5)), some (.inl 0)] [] S Q := by
  obtain ⟨N, hN⟩ : ∃ N : Nat, N = 3 := ⟨_, rfl⟩
  rw [← hN] at h
  refine wp_for (fun j => [some (.inr (0, 30)), some (.inl t), some (.inl (bsM (S 0 31) t j)), some (.inl (j : Int))]) (fun _ => S) N rfl rfl (fun j hj h => ?_) ?_
  · have hb := bs_b (S 0 31) t j
    refine best_step hF hP ht (by omega) hb ?_
    rw [Int.natCast_add] at h
    exact h
  · have e : (N : Int) = 3 := by omega
    rw [e]
    exact best_end h
def snM (M : Int → Int) (t b : Int) : Nat → (Int → Int)
  | 0 => M
  | k + 1 => stM (snM M t b k) (k : Int) t b
set_option maxHeartbeats 4000000 in
set_option maxRecDepth 100000 in
theorem sn_ne {M : Int → Int} {t b j : Int} (h : ¬ j = 3) (h2 : ¬ j = 833 + t) : ∀ k : Nat, snM M t b k j = M j := by
  intro k
  induction k with
  | zero => rfl
  | succ k ih =>
    unfold snM
    rw [st_ne h h2]
    exact ih
set_option maxHeartbeats 4000000 in
set_option maxRecDepth 100000 in
theorem FlB_sn {M : Int → Int} {t b : Int} (hF : FlB M) : ∀ k : Nat, k ≤ 3 → FlB (snM M t b k) := by
  intro k
  induction k with
  | zero => intro _; exact hF
  | succ k ih =>
    intro hk
    unfold snM
    exact FlB_st (ih (by omega)) (by omega)
set_option maxHeartbeats 4000000 in
set_option maxRecDepth 100000 in
theorem clerk_rest {S : Hp} {t b : Int} {Q : Option MV → Hp → Prop} (hF : FlB (S 0 31)) (hP : PdB (S 0 31)) (hW : DrW (S 0 31)) (ht : 0 ≤ t ∧ t < 600) (hb : -5 ≤ b ∧ b < 3) (h : Q none (hr S 0 31 (snM (S 0 31) t b 3))) : Wp 143 73 [some (.inr (0, 30)), some (.inl t), some (.inl b), some (.inl 0)] [] S Q := by
  obtain ⟨N, hN⟩ : ∃ N : Nat, N = 3 := ⟨_, rfl⟩
  rw [← hN] at h
  refine wp_for (fun j => [some (.inr (0, 30)), some (.inl t), some (.inl b), some (.inl (j : Int))]) (fun j => hr S 0 31 (snM (S 0 31) t b j)) N rfl (hr_id S 0 31).symm (fun j hj h => ?_) ?_
  · refine settle_step (by rw [hr_at]; exact FlB_sn hF j (by omega)) (by rw [hr_at]; intro w u h1 h2 h3 h4; rw [sn_ne (by omega) (by omega)]; exact hP w u h1 h2 h3 h4) (by rw [hr_at]; intro d h1 h2; rw [sn_ne (by omega) (by omega), sn_ne (by omega) (by omega)]; exact hW d h1 h2) ht (by omega) hb ?_
    rw [Int.natCast_add] at h
    rw [hr_hr, hr_at]
    exact h
  · have e : (N : Int) = 3 := by omega
    rw [e]
    exact settle_end h
def csM (M : Int → Int) : Int → Int := if fdM M 600 = -5 then M else snM (up M (1433 + fdM M 600) 0) (fdM M 600) (bsM (up M (1433 + fdM M 600) 0) (fdM M 600) 3) 3
set_option maxHeartbeats 4000000 in
set_option maxRecDepth 100000 in
theorem m_clerkSettles {S : Hp} (hF : FlB (S 0 31)) (hP : PdB (S 0 31)) (hW : DrW (S 0 31)) (hD : DsB (S 0 31)) (Q : Option MV → Hp → Prop) : Wc 143 [.inr (0, 30)] S Q = Q none (hr S 0 31 (csM (S 0 31))) := by
  refine Wc_eq ?_ Q
  unfold Wc
  have hf := fdM_b (S 0 31) 600
  refine vg_sound (fun m pc => (m == 143 && pc == 28)) (fun m => m == 143) 40 _ _ _ _ _ _ ?_
  repeat' first | (with_reducible refine vT ?_ ?_; · omega) | (with_reducible refine vF ?_ ?_; · omega) | (with_reducible refine vI (fun _ => ?_) (fun _ => ?_)) | (simp (config := {maxSteps := 1000000}) (disch := (first | assumption | omega | (rw [hr_at]; assumption) | (rw [hr_at]; omega))) only [f_X8_clerkSettles, wg_0, wg_s, wK_none, wK_N, wK_C, wK_R, wQ_some, wQ_none, stR, mZ, mC, stI, ini, mL, gI, gA, sI, sA, bi, gF, pF, kF, kT, kL, c2, mT, mR, f4, tsw, lsw, tgt, inR, Nat.reduceLT, Nat.reduceLeDiff, Nat.reduceEqDiff, Nat.reduceAdd, Nat.reduceSub, ↓reduceIte, Bool.false_eq_true, List.map_cons, List.map_nil, List.length_cons, List.length_nil, List.replicate, List.cons_append, List.nil_append, List.getElem?_cons_zero, List.getElem?_cons_succ, List.set, List.take_succ_cons, List.take_zero, List.drop_succ_cons, List.drop_zero, List.reverse_cons, List.reverse_nil, Int.reduceLE, Int.reduceLT, Int.reduceNeg, Int.reduceToNat, true_and, and_true, and_self, beq_iff_eq, Bool.and_eq_true, Bool.or_eq_true, or_false, false_or, or_true, true_or, and_false, false_and, hu_hr, hr_hr, hr_at, hr_nc, not_false_eq_true, Int.reduceEq, Int.pow_zero, Int.reducePow, Int.reduceMul, Int.reduceAdd, Int.reduceDiv, Int.reduceMod, Int.zero_add, Int.add_zero, Int.mul_one, m_firstDispute, hD])
  · next e =>
    unfold csM
    rw [if_pos (by omega), hr_id]
  · next e =>
    have e1 : hr S 0 31 (csM (S 0 31)) = hr (hr S 0 31 (up (S 0 31) (1433 + fdM (S 0 31) 600) 0)) 0 31 (snM (up (S 0 31) (1433 + fdM (S 0 31) 600) 0) (fdM (S 0 31) 600) (bsM (up (S 0 31) (1433 + fdM (S 0 31) 600) 0) (fdM (S 0 31) 600) 3) 3) := by
      rw [hr_hr]
      unfold csM
      rw [if_neg (by omega)]
    rw [e1]
    have hb := bs_b (up (S 0 31) (1433 + fdM (S 0 31) 600) 0) (fdM (S 0 31) 600) 3
    have hF1 : FlB (up (S 0 31) (1433 + fdM (S 0 31) 600) 0) := FlB_up hF (by omega)
    have hP1 : PdB (up (S 0 31) (1433 + fdM (S 0 31) 600) 0) := fun w u h1 h2 h3 h4 => by rw [up_ne (by omega)]; exact hP w u h1 h2 h3 h4
    have hW1 : DrW (up (S 0 31) (1433 + fdM (S 0 31) 600) 0) := fun d h1 h2 => by rw [up_ne (by omega), up_ne (by omega)]; exact hW d h1 h2
    refine clerk_best (by rw [hr_at]; exact hF1) (by rw [hr_at]; exact hP1) (by omega) ?_
    rw [hr_at]
    refine clerk_rest (by rw [hr_at]; exact hF1) (by rw [hr_at]; exact hP1) (by rw [hr_at]; exact hW1) (by omega) (by omega) ?_
    rw [hr_at]
    exact ⟨rfl, rfl⟩
