/-! THE REFERENCE's row: messages that come, reasons -/
def PdB (M : Int → Int) : Prop := ∀ w t : Int, 0 ≤ w → w < 3 → 0 ≤ t → t < 600 → 0 ≤ M (2033 + 600 * w + t) ∧ M (2033 + 600 * w + t) < 2147483648
def DsB (M : Int → Int) : Prop := ∀ t : Int, 0 ≤ t → t < 600 → 0 ≤ M (1433 + t) ∧ M (1433 + t) < 2147483648
def mcM (M : Int → Int) (w t : Int) : Int → Int :=
  if 0 < mkM M t (2 + w).toNat 1 (2033 + 600 * w + t) then (if mkM M t (2 + w).toNat 1 (1433 + t) = 0 then up (up (mkM M t (2 + w).toNat 1) 4 (mkM M t (2 + w).toNat 1 4 + 1)) (1433 + t) (up (mkM M t (2 + w).toNat 1) 4 (mkM M t (2 + w).toNat 1 4 + 1) 4) else mkM M t (2 + w).toNat 1) else mkM M t (2 + w).toNat 1
set_option maxHeartbeats 4000000 in
set_option maxRecDepth 100000 in
theorem mk_ne {M : Int → Int} {t : Int} {f : Nat} {b j : Int} (h : ¬ j = 833 + t) : mkM M t f b j = M j := up_ne h
set_option maxHeartbeats 4000000 in
set_option maxRecDepth 100000 in
theorem m_markComes {S : Hp} {w t : Int} (hF : FlB (S 0 31)) (hP : PdB (S 0 31)) (hD : DsB (S 0 31)) (hw : 0 ≤ w ∧ w < 3) (ht : 0 ≤ t ∧ t < 600) (Q : Option MV → Hp → Prop) : Wc 131 [.inr (0, 30), .inl w, .inl t] S Q = Q none (hr S 0 31 (mcM (S 0 31) w t)) := by
  refine Wc_eq ?_ Q
  unfold Wc
  have h1 := hP w t hw.1 hw.2 ht.1 ht.2
  have h2 := hD t ht.1 ht.2
  rw [← mk_ne (M := S 0 31) (t := t) (f := (2 + w).toNat) (b := 1) (show ¬ 2033 + 600 * w + t = 833 + t by omega)] at h1
  rw [← mk_ne (M := S 0 31) (t := t) (f := (2 + w).toNat) (b := 1) (show ¬ 1433 + t = 833 + t by omega)] at h2
  refine vg_sound (fun _ _ => false) (fun m => m == 131 || m == 120) 80 _ _ _ _ _ _ ?_
  repeat' first | (with_reducible refine vT ?_ ?_; · omega) | (with_reducible refine vF ?_ ?_; · omega) | (with_reducible refine vI (fun _ => ?_) (fun _ => ?_)) | (simp (config := {maxSteps := 1000000}) (disch := (first | assumption | omega | (rw [hr_at]; assumption) | (rw [hr_at]; omega))) only [f_X8_markComes, f_X8_paidAt, wg_0, wg_s, wK_none, wK_N, wK_C, wK_R, wQ_some, wQ_none, stR, mZ, mC, stI, ini, mL, gI, gA, sI, sA, bi, gF, pF, kF, kT, kL, c2, mT, mR, f4, tsw, lsw, tgt, inR, Nat.reduceLT, Nat.reduceLeDiff, Nat.reduceEqDiff, Nat.reduceAdd, Nat.reduceSub, ↓reduceIte, Bool.false_eq_true, List.map_cons, List.map_nil, List.length_cons, List.length_nil, List.replicate, List.cons_append, List.nil_append, List.getElem?_cons_zero, List.getElem?_cons_succ, List.set, List.take_succ_cons, List.take_zero, List.drop_succ_cons, List.drop_zero, List.reverse_cons, List.reverse_nil, Int.reduceLE, Int.reduceLT, Int.reduceNeg, Int.reduceToNat, true_and, and_true, and_self, beq_iff_eq, Bool.and_eq_true, Bool.or_eq_true, or_false, false_or, or_true, true_or, and_false, false_and, hu_hr, hr_hr, hr_at, hr_nc, not_false_eq_true, Int.reduceEq, Int.pow_zero, Int.reducePow, Int.reduceMul, Int.reduceAdd, Int.reduceDiv, Int.reduceMod, Int.zero_add, Int.add_zero, Int.mul_one, m_mark, hF])
  all_goals unfold mcM
  all_goals (repeat (first | rw [if_pos (by omega)] | rw [if_neg (by omega)]))
def qcM (M : Int → Int) (h fr t : Int) : Int → Int := if qb M t 1 = 0 then (if qb M t (2 + h).toNat = 0 then sdM (mkM M t 1 1) 2 fr h t else sdM M 3 fr h t) else sdM M 3 fr h t
set_option maxHeartbeats 4000000 in
set_option maxRecDepth 100000 in
theorem m_questionComes {S : Hp} {h fr t : Int} (hF : FlB (S 0 31)) (hn : 0 ≤ S 0 31 2 ∧ S 0 31 2 < 256) (hh : 0 ≤ h ∧ h < 3) (ht : 0 ≤ t ∧ t < 600) (Q : Option MV → Hp → Prop) : Wc 132 [.inr (0, 30), .inl h, .inl fr, .inl t] S Q = Q none (hr S 0 31 (qcM (S 0 31) h fr t)) := by
  refine Wc_eq ?_ Q
  unfold Wc
  have h1 := qb_01 (S 0 31) t 1
  have h2 := qb_01 (S 0 31) t (2 + h).toNat
  have h3 := mk_ne (M := S 0 31) (t := t) (f := 1) (b := 1) (show ¬ 2 = 833 + t by omega)
  refine vg_sound (fun _ _ => false) (fun m => m == 132) 80 _ _ _ _ _ _ ?_
  repeat' first | (with_reducible refine vT ?_ ?_; · omega) | (with_reducible refine vF ?_ ?_; · omega) | (with_reducible refine vI (fun _ => ?_) (fun _ => ?_)) | (simp (config := {maxSteps := 1000000}) (disch := (first | assumption | omega | (rw [hr_at]; assumption) | (rw [hr_at]; omega))) only [f_X8_questionComes, wg_0, wg_s, wK_none, wK_N, wK_C, wK_R, wQ_some, wQ_none, stR, mZ, mC, stI, ini, mL, gI, gA, sI, sA, bi, gF, pF, kF, kT, kL, c2, mT, mR, f4, tsw, lsw, tgt, inR, Nat.reduceLT, Nat.reduceLeDiff, Nat.reduceEqDiff, Nat.reduceAdd, Nat.reduceSub, ↓reduceIte, Bool.false_eq_true, List.map_cons, List.map_nil, List.length_cons, List.length_nil, List.replicate, List.cons_append, List.nil_append, List.getElem?_cons_zero, List.getElem?_cons_succ, List.set, List.take_succ_cons, List.take_zero, List.drop_succ_cons, List.drop_zero, List.reverse_cons, List.reverse_nil, Int.reduceLE, Int.reduceLT, Int.reduceNeg, Int.reduceToNat, true_and, and_true, and_self, beq_iff_eq, Bool.and_eq_true, Bool.or_eq_true, or_false, false_or, or_true, true_or, and_false, false_and, hu_hr, hr_hr, hr_at, hr_nc, not_false_eq_true, Int.reduceEq, Int.pow_zero, Int.reducePow, Int.reduceMul, Int.reduceAdd, Int.reduceDiv, Int.reduceMod, Int.zero_add, Int.add_zero, Int.mul_one, m_is, m_mark, m_send, hF])
  all_goals unfold qcM
  all_goals (repeat (first | rw [if_pos (by omega)] | rw [if_neg (by omega)]))
def acM (M : Int → Int) (w t y : Int) : Int → Int := if M (8 + 15 * w + 9) = t + 1 then (if y = 0 then awM (frM M w) w 5 else payM (frM M w) w t) else (if y = 0 then M else mkM M t 1 0)
set_option maxHeartbeats 4000000 in
set_option maxRecDepth 100000 in
theorem m_answerComes {S : Hp} {w t y : Int} (hF : FlB (S 0 31)) (hW : DrW (S 0 31)) (hn : 0 ≤ S 0 31 2 ∧ S 0 31 2 < 255) (ha : 0 ≤ S 0 31 (8 + 15 * w + 9) ∧ S 0 31 (8 + 15 * w + 9) ≤ 600) (hw : 0 ≤ w ∧ w < 3) (ht : 0 ≤ t ∧ t < 600) (hy : y = 0 ∨ y = 1) (Q : Option MV → Hp → Prop) : Wc 133 [.inr (0, 30), .inl w, .inl t, .inl y] S Q = Q none (hr S 0 31 (acM (S 0 31) w t y)) := by
  refine Wc_eq ?_ Q
  unfold Wc
  have hF1 : FlB (frM (S 0 31) w) := FlB_up (FlB_up hF (by omega)) (by omega)
  have hW1 : DrW (frM (S 0 31) w) := DrW_up (DrW_up hW (by omega)) (by omega)
  have h3 : frM (S 0 31) w 2 = S 0 31 2 := by unfold frM; rw [up_ne (by omega), up_ne (by omega)]
  refine vg_sound (fun _ _ => false) (fun m => m == 133 || m == 117) 80 _ _ _ _ _ _ ?_
  repeat' first | (with_reducible refine vT ?_ ?_; · omega) | (with_reducible refine vF ?_ ?_; · omega) | (with_reducible refine vI (fun _ => ?_) (fun _ => ?_)) | (simp (config := {maxSteps := 1000000}) (disch := (first | assumption | omega | (rw [hr_at]; assumption) | (rw [hr_at]; omega))) only [f_X8_answerComes, f_X8_at, wg_0, wg_s, wK_none, wK_N, wK_C, wK_R, wQ_some, wQ_none, stR, mZ, mC, stI, ini, mL, gI, gA, sI, sA, bi, gF, pF, kF, kT, kL, c2, mT, mR, f4, tsw, lsw, tgt, inR, Nat.reduceLT, Nat.reduceLeDiff, Nat.reduceEqDiff, Nat.reduceAdd, Nat.reduceSub, ↓reduceIte, Bool.false_eq_true, List.map_cons, List.map_nil, List.length_cons, List.length_nil, List.replicate, List.cons_append, List.nil_append, List.getElem?_cons_zero, List.getElem?_cons_succ, List.set, List.take_succ_cons, List.take_zero, List.drop_succ_cons, List.drop_zero, List.reverse_cons, List.reverse_nil, Int.reduceLE, Int.reduceLT, Int.reduceNeg, Int.reduceToNat, true_and, and_true, and_self, beq_iff_eq, Bool.and_eq_true, Bool.or_eq_true, or_false, false_or, or_true, true_or, and_false, false_and, hu_hr, hr_hr, hr_at, hr_nc, not_false_eq_true, Int.reduceEq, Int.pow_zero, Int.reducePow, Int.reduceMul, Int.reduceAdd, Int.reduceDiv, Int.reduceMod, Int.zero_add, Int.add_zero, Int.mul_one, m_free, m_pay, m_sendAway, m_mark, hF, hW])
  all_goals unfold acM
  all_goals (repeat (first | rw [if_pos (by omega)] | rw [if_neg (by omega)]))
  all_goals (try rw [hr_id])
set_option maxHeartbeats 4000000 in
set_option maxRecDepth 100000 in
theorem prz_b (M : Int → Int) {t : Int} (ht : 0 ≤ t ∧ t < 600) : 0 ≤ przM M t ∧ przM M t ≤ 400 := by
  have hs := sdC_b M (t / 100)
  have hp := ofC_pos (M := M) ht
  unfold przM
  split
  · omega
  · have h1 : 0 ≤ 10 * sdC M (t / 100) * shr (clM M t) / 100 ∧ 10 * sdC M (t / 100) * shr (clM M t) / 100 ≤ 400 := by
      unfold shr
      repeat' split
      all_goals omega
    refine ⟨Int.ediv_nonneg h1.1 (by omega), ?_⟩
    have := Int.ediv_le_self (b := ofC M (t / 100) (clM M t)) h1.1
    omega
def imE (M : Int → Int) (w t : Int) : Int := if (¬ w = 0 ∧ qb M t 2 = 1) ∨ (¬ w = 1 ∧ qb M t 3 = 1) ∨ (¬ w = 2 ∧ qb M t 4 = 1) then 1 else 0
set_option maxHeartbeats 4000000 in
set_option maxRecDepth 100000 in
theorem m_isMarkedElsewhere {S : Hp} {w t : Int} (hF : FlB (S 0 31)) (hw : 0 ≤ w ∧ w < 3) (ht : 0 ≤ t ∧ t < 600) (Q : Option MV → Hp → Prop) : Wc 136 [.inr (0, 30), .inl w, .inl t] S Q = Q (some (.inl (imE (S 0 31) w t))) S := by
  refine Wc_eq ?_ Q
  unfold Wc
  have h2 := qb_01 (S 0 31) t 2
  have h3 := qb_01 (S 0 31) t 3
  have h4 := qb_01 (S 0 31) t 4
  refine vg_sound (fun _ _ => false) (fun m => m == 136) 120 _ _ _ _ _ _ ?_
  repeat' first | (with_reducible refine vT ?_ ?_; · omega) | (with_reducible refine vF ?_ ?_; · omega) | (with_reducible refine vI (fun _ => ?_) (fun _ => ?_)) | (simp (config := {maxSteps := 1000000}) (disch := (first | assumption | omega | (rw [hr_at]; assumption) | (rw [hr_at]; omega))) only [f_X8_isMarkedElsewhere, wg_0, wg_s, wK_none, wK_N, wK_C, wK_R, wQ_some, wQ_none, stR, mZ, mC, stI, ini, mL, gI, gA, sI, sA, bi, gF, pF, kF, kT, kL, c2, mT, mR, f4, tsw, lsw, tgt, inR, Nat.reduceLT, Nat.reduceLeDiff, Nat.reduceEqDiff, Nat.reduceAdd, Nat.reduceSub, ↓reduceIte, Bool.false_eq_true, List.map_cons, List.map_nil, List.length_cons, List.length_nil, List.replicate, List.cons_append, List.nil_append, List.getElem?_cons_zero, List.getElem?_cons_succ, List.set, List.take_succ_cons, List.take_zero, List.drop_succ_cons, List.drop_zero, List.reverse_cons, List.reverse_nil, Int.reduceLE, Int.reduceLT, Int.reduceNeg, Int.reduceToNat, true_and, and_true, and_self, beq_iff_eq, Bool.and_eq_true, Bool.or_eq_true, or_false, false_or, or_true, true_or, and_false, false_and, hu_hr, hr_hr, hr_at, hr_nc, not_false_eq_true, Int.reduceEq, Int.pow_zero, Int.reducePow, Int.reduceMul, Int.reduceAdd, Int.reduceDiv, Int.reduceMod, Int.zero_add, Int.add_zero, Int.mul_one, m_is, hF])
  all_goals unfold imE
  all_goals (simp only [Option.some.injEq, Sum.inl.injEq])
  all_goals (first | rw [if_pos (by omega)] | rw [if_neg (by omega)])
def reM (M : Int → Int) (w t : Int) : Int := if qb M t 0 = 0 then 1 else if M (53 + 2 * (t / 100)) = 0 then 2 else if przM M t = 0 then 3 else if qb M t (2 + w).toNat = 1 then 4 else if (M 5 = 1 ∧ t % 3 = w ∧ qb M t 1 = 1) ∨ (M 5 = 2 ∧ imE M w t = 1) then 5 else 0
set_option maxHeartbeats 4000000 in
set_option maxRecDepth 100000 in
theorem m_reason {S : Hp} {w t : Int} (hF : FlB (S 0 31)) (hW : DrW (S 0 31)) (hr5 : 0 ≤ S 0 31 5 ∧ S 0 31 5 ≤ 2) (hw : 0 ≤ w ∧ w < 3) (ht : 0 ≤ t ∧ t < 600) (Q : Option MV → Hp → Prop) : Wc 137 [.inr (0, 30), .inl w, .inl t] S Q = Q (some (.inl (reM (S 0 31) w t))) S := by
  refine Wc_eq ?_ Q
  unfold Wc
  have h0 := qb_01 (S 0 31) t 0
  have h1 := qb_01 (S 0 31) t 1
  have h2 := qb_01 (S 0 31) t (2 + w).toNat
  have h3 := hW (t / 100) (by omega) (by omega)
  have h4 := prz_b (S 0 31) ht
  have h5 : imE (S 0 31) w t = 0 ∨ imE (S 0 31) w t = 1 := by unfold imE; split <;> simp
  refine vg_sound (fun _ _ => false) (fun m => m == 137) 120 _ _ _ _ _ _ ?_
  repeat' first | (with_reducible refine vT ?_ ?_; · omega) | (with_reducible refine vF ?_ ?_; · omega) | (with_reducible refine vI (fun _ => ?_) (fun _ => ?_)) | (simp (config := {maxSteps := 1000000}) (disch := (first | assumption | omega | (rw [hr_at]; assumption) | (rw [hr_at]; omega))) only [f_X8_reason, wg_0, wg_s, wK_none, wK_N, wK_C, wK_R, wQ_some, wQ_none, stR, mZ, mC, stI, ini, mL, gI, gA, sI, sA, bi, gF, pF, kF, kT, kL, c2, mT, mR, f4, tsw, lsw, tgt, inR, Nat.reduceLT, Nat.reduceLeDiff, Nat.reduceEqDiff, Nat.reduceAdd, Nat.reduceSub, ↓reduceIte, Bool.false_eq_true, List.map_cons, List.map_nil, List.length_cons, List.length_nil, List.replicate, List.cons_append, List.nil_append, List.getElem?_cons_zero, List.getElem?_cons_succ, List.set, List.take_succ_cons, List.take_zero, List.drop_succ_cons, List.drop_zero, List.reverse_cons, List.reverse_nil, Int.reduceLE, Int.reduceLT, Int.reduceNeg, Int.reduceToNat, true_and, and_true, and_self, beq_iff_eq, Bool.and_eq_true, Bool.or_eq_true, or_false, false_or, or_true, true_or, and_false, false_and, hu_hr, hr_hr, hr_at, hr_nc, not_false_eq_true, Int.reduceEq, Int.pow_zero, Int.reducePow, Int.reduceMul, Int.reduceAdd, Int.reduceDiv, Int.reduceMod, Int.zero_add, Int.add_zero, Int.mul_one, m_is, m_isDrawn, m_prize, m_isMarkedElsewhere, hF, hW])
  all_goals unfold reM
  all_goals (simp only [Option.some.injEq, Sum.inl.injEq])
  all_goals (repeat (first | rw [if_pos (by omega)] | rw [if_neg (by omega)]))
