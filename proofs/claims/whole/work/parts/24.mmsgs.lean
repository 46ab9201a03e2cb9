/-! THE REFERENCE's row: the messages of a tick -/
def Gm (M : Int → Int) : Prop := FlB M ∧ DrW M ∧ PdB M ∧ DsB M ∧ (∀ w : Int, 0 ≤ w → w < 3 → 0 ≤ M (8 + 15 * w + 9) ∧ M (8 + 15 * w + 9) ≤ 600) ∧ (0 ≤ M 2 ∧ M 2 < 255)
def coM (M : Int → Int) (kind to fr t : Int) : Int → Int := if kind = 0 then mcM M to t else if kind = 1 then qcM M to fr t else if kind = 2 then acM M to t 1 else acM M to t 0
set_option maxHeartbeats 4000000 in
set_option maxRecDepth 100000 in
theorem m_comes {S : Hp} {kind to fr t : Int} (hG : Gm (S 0 31)) (hk : 0 ≤ kind ∧ kind ≤ 3) (hw : 0 ≤ to ∧ to < 3) (ht : 0 ≤ t ∧ t < 600) (Q : Option MV → Hp → Prop) : Wc 134 [.inr (0, 30), .inl kind, .inl to, .inl fr, .inl t] S Q = Q none (hr S 0 31 (coM (S 0 31) kind to fr t)) := by
  refine Wc_eq ?_ Q
  unfold Wc
  obtain ⟨hF, hW, hP, hD, hA, hn⟩ := hG
  have ha := hA to hw.1 hw.2
  refine vg_sound (fun _ _ => false) (fun m => m == 134) 120 _ _ _ _ _ _ ?_
  repeat' first | (with_reducible refine vT ?_ ?_; · omega) | (with_reducible refine vF ?_ ?_; · omega) | (with_reducible refine vI (fun _ => ?_) (fun _ => ?_)) | (simp (config := {maxSteps := 1000000}) (disch := (first | assumption | omega | (rw [hr_at]; assumption) | (rw [hr_at]; omega))) only [f_X8_comes, wg_0, wg_s, wK_none, wK_N, wK_C, wK_R, wQ_some, wQ_none, stR, mZ, mC, stI, ini, mL, gI, gA, sI, sA, bi, gF, pF, kF, kT, kL, c2, mT, mR, f4, tsw, lsw, tgt, inR, Nat.reduceLT, Nat.reduceLeDiff, Nat.reduceEqDiff, Nat.reduceAdd, Nat.reduceSub, ↓reduceIte, Bool.false_eq_true, List.map_cons, List.map_nil, List.length_cons, List.length_nil, List.replicate, List.cons_append, List.nil_append, List.getElem?_cons_zero, List.getElem?_cons_succ, List.set, List.take_succ_cons, List.take_zero, List.drop_succ_cons, List.drop_zero, List.reverse_cons, List.reverse_nil, Int.reduceLE, Int.reduceLT, Int.reduceNeg, Int.reduceToNat, true_and, and_true, and_self, beq_iff_eq, Bool.and_eq_true, Bool.or_eq_true, or_false, false_or, or_true, true_or, and_false, false_and, hu_hr, hr_hr, hr_at, hr_nc, not_false_eq_true, Int.reduceEq, Int.pow_zero, Int.reducePow, Int.reduceMul, Int.reduceAdd, Int.reduceDiv, Int.reduceMod, Int.zero_add, Int.add_zero, Int.mul_one, m_markComes, m_questionComes, m_answerComes, hF, hW, hP, hD])
  all_goals unfold coM
  all_goals (repeat (first | rw [if_pos (by omega)] | rw [if_neg (by omega)]))
/- the messages 0 .. k - 1 have come -/
def m1 (M : Int → Int) : Nat → (Int → Int)
  | 0 => M
  | k + 1 => if m1 M k (65 + 3 * (k : Int)) = m1 M k 0 then coM (m1 M k) (m1 M k (65 + 3 * (k : Int) + 1) / 100) (m1 M k (65 + 3 * (k : Int) + 1) / 10 % 10) (m1 M k (65 + 3 * (k : Int) + 1) % 10) (m1 M k (65 + 3 * (k : Int) + 2)) else m1 M k
/- a message is as it should be -/
def MsW (M : Int → Int) (i : Int) : Prop := (0 ≤ M (65 + 3 * i) ∧ M (65 + 3 * i) < 2147483648) ∧ (0 ≤ M (65 + 3 * i + 1) ∧ M (65 + 3 * i + 1) / 100 ≤ 3 ∧ M (65 + 3 * i + 1) / 10 % 10 < 3) ∧ 0 ≤ M (65 + 3 * i + 2) ∧ M (65 + 3 * i + 2) < 600
set_option maxHeartbeats 4000000 in
set_option maxRecDepth 100000 in
theorem msgs_step {S : Hp} {z : Int} {x2 x3 : Option MV} {Q : Option MV → Hp → Prop} (hG : Gm (S 0 31)) (ht : 0 ≤ S 0 31 0 ∧ S 0 31 0 < 2147483648) (hm : MsW (S 0 31) z) (hz : 0 ≤ z ∧ z < S 0 31 2) (hz2 : z < 255)
    (h : ∀ y : Option MV, Wp 135 2 [some (.inr (0, 30)), some (.inl (z + 1)), y, x3] [] (hr S 0 31 (if S 0 31 (65 + 3 * z) = S 0 31 0 then coM (S 0 31) (S 0 31 (65 + 3 * z + 1) / 100) (S 0 31 (65 + 3 * z + 1) / 10 % 10) (S 0 31 (65 + 3 * z + 1) % 10) (S 0 31 (65 + 3 * z + 2)) else S 0 31)) Q) :
    Wp 135 2 [some (.inr (0, 30)), some (.inl z), x2, x3] [] S Q := by
  obtain ⟨h1, h2, h3⟩ := hm
  obtain ⟨hF, hW, hP, hD, hA, hn⟩ := id hG
  refine vg_cut (fun m pc => (m == 135 && pc == 2)) (fun m => m == 135) 120 _ _ _ _ _ _ ?_
  repeat' first | (with_reducible refine vT ?_ ?_; · omega) | (with_reducible refine vF ?_ ?_; · omega) | (with_reducible refine vI (fun _ => ?_) (fun _ => ?_)) | (simp (config := {maxSteps := 1000000}) (disch := (first | assumption | omega | (rw [hr_at]; assumption) | (rw [hr_at]; omega))) only [f_X8_messagesCome, wg_0, wg_s, wK_none, wK_N, wK_C, wK_R, wQ_some, wQ_none, stR, mZ, mC, stI, ini, mL, gI, gA, sI, sA, bi, gF, pF, kF, kT, kL, c2, mT, mR, f4, tsw, lsw, tgt, inR, Nat.reduceLT, Nat.reduceLeDiff, Nat.reduceEqDiff, Nat.reduceAdd, Nat.reduceSub, ↓reduceIte, Bool.false_eq_true, List.map_cons, List.map_nil, List.length_cons, List.length_nil, List.replicate, List.cons_append, List.nil_append, List.getElem?_cons_zero, List.getElem?_cons_succ, List.set, List.take_succ_cons, List.take_zero, List.drop_succ_cons, List.drop_zero, List.reverse_cons, List.reverse_nil, Int.reduceLE, Int.reduceLT, Int.reduceNeg, Int.reduceToNat, true_and, and_true, and_self, beq_iff_eq, Bool.and_eq_true, Bool.or_eq_true, or_false, false_or, or_true, true_or, and_false, false_and, hu_hr, hr_hr, hr_at, hr_nc, not_false_eq_true, Int.reduceEq, Int.pow_zero, Int.reducePow, Int.reduceMul, Int.reduceAdd, Int.reduceDiv, Int.reduceMod, Int.zero_add, Int.add_zero, Int.mul_one, m_comes, hG])
  · next e => rw [if_pos e] at h; exact h _
  · next e => rw [if_neg e, hr_id] at h; exact h _
def cpM (M : Int → Int) (l k : Int) : Int → Int := up (up (up M (65 + 3 * l) (M (65 + 3 * k))) (65 + 3 * l + 1) (up M (65 + 3 * l) (M (65 + 3 * k)) (65 + 3 * k + 1))) (65 + 3 * l + 2) (up (up M (65 + 3 * l) (M (65 + 3 * k))) (65 + 3 * l + 1) (up M (65 + 3 * l) (M (65 + 3 * k)) (65 + 3 * k + 1)) (65 + 3 * k + 2))
set_option maxHeartbeats 4000000 in
set_option maxRecDepth 100000 in
theorem cp_ne {M : Int → Int} {l k j : Int} (h : j < 65 + 3 * l ∨ 65 + 3 * l + 2 < j) : cpM M l k j = M j := by
  unfold cpM
  rw [up_ne (by omega), up_ne (by omega), up_ne (by omega)]
def m2 (M : Int → Int) : Nat → (Int → Int) × Int
  | 0 => (M, 0)
  | k + 1 => if (m2 M k).1 (65 + 3 * (k : Int)) = (m2 M k).1 0 then m2 M k else (cpM (m2 M k).1 (m2 M k).2 k, (m2 M k).2 + 1)
def m3 (M : Int → Int) (a : Int) : Nat → (Int → Int)
  | 0 => M
  | j + 1 => up (m3 M a j) (65 + (a + (j : Int))) 0
set_option maxHeartbeats 4000000 in
set_option maxRecDepth 100000 in
theorem m2_b (M : Int → Int) : ∀ k : Nat, 0 ≤ (m2 M k).2 ∧ (m2 M k).2 ≤ k ∧ (∀ j : Int, j < 65 → (m2 M k).1 j = M j) ∧ ∀ j : Int, 65 + 3 * (m2 M k).2 ≤ j → (m2 M k).1 j = M j := by
  intro k
  induction k with
  | zero => exact ⟨Int.le_refl _, Int.le_refl _, fun _ _ => rfl, fun _ _ => rfl⟩
  | succ k ih =>
    obtain ⟨h1, h2, h3, h4⟩ := ih
    unfold m2
    split
    · exact ⟨h1, by omega, h3, h4⟩
    · refine ⟨by show 0 ≤ (m2 M k).2 + 1; omega, by show (m2 M k).2 + 1 ≤ _; omega, fun j hj => ?_, fun j hj => ?_⟩
      · show cpM _ _ _ j = _
        rw [cp_ne (by omega)]
        exact h3 j hj
      · have hj2 : 65 + 3 * ((m2 M k).2 + 1) ≤ j := hj
        show cpM _ _ _ j = _
        rw [cp_ne (by omega)]
        exact h4 j (by omega)
set_option maxHeartbeats 4000000 in
set_option maxRecDepth 100000 in
theorem m3_ne (M : Int → Int) (a j : Int) : ∀ n : Nat, (j < 65 + a ∨ 65 + a + n ≤ j) → m3 M a n j = M j := by
  intro n
  induction n with
  | zero => intro _; rfl
  | succ n ih =>
    intro h
    unfold m3
    rw [up_ne (by omega)]
    exact ih (by omega)
set_option maxHeartbeats 4000000 in
set_option maxRecDepth 100000 in
theorem m3_in (M : Int → Int) (a j : Int) : ∀ n : Nat, 65 + a ≤ j → j < 65 + a + n → m3 M a n j = 0 := by
  intro n
  induction n with
  | zero => intro h1 h2; omega
  | succ n ih =>
    intro h1 h2
    unfold m3
    by_cases e : j = 65 + (a + (n : Int))
    · rw [up_eq e]
    · rw [up_ne e]
      exact ih h1 (by omega)
set_option maxHeartbeats 4000000 in
set_option maxRecDepth 100000 in
theorem keep_step {S : Hp} {l z : Int} {x3 : Option MV} {Q : Option MV → Hp → Prop} (ht : 0 ≤ S 0 31 0 ∧ S 0 31 0 < 2147483648) (hd : 0 ≤ S 0 31 (65 + 3 * z) ∧ S 0 31 (65 + 3 * z) < 2147483648) (hz : 0 ≤ z ∧ z < S 0 31 2) (hz2 : S 0 31 2 ≤ 256) (hl : 0 ≤ l ∧ l ≤ z)
    (h : ∀ y : Option MV, Wp 135 92 [some (.inr (0, 30)), some (.inl (if S 0 31 (65 + 3 * z) = S 0 31 0 then l else l + 1)), some (.inl (z + 1)), y] [] (hr S 0 31 (if S 0 31 (65 + 3 * z) = S 0 31 0 then S 0 31 else cpM (S 0 31) l z)) Q) :
    Wp 135 92 [some (.inr (0, 30)), some (.inl l), some (.inl z), x3] [] S Q := by
  refine vg_cut (fun m pc => (m == 135 && pc == 92)) (fun m => m == 135) 200 _ _ _ _ _ _ ?_
  repeat' first | (with_reducible refine vT ?_ ?_; · omega) | (with_reducible refine vF ?_ ?_; · omega) | (with_reducible refine vI (fun _ => ?_) (fun _ => ?_)) | (simp (config := {maxSteps := 1000000}) (disch := (first | assumption | omega | (rw [hr_at]; assumption) | (rw [hr_at]; omega))) only [f_X8_messagesCome, wg_0, wg_s, wK_none, wK_N, wK_C, wK_R, wQ_some, wQ_none, stR, mZ, mC, stI, ini, mL, gI, gA, sI, sA, bi, gF, pF, kF, kT, kL, c2, mT, mR, f4, tsw, lsw, tgt, inR, Nat.reduceLT, Nat.reduceLeDiff, Nat.reduceEqDiff, Nat.reduceAdd, Nat.reduceSub, ↓reduceIte, Bool.false_eq_true, List.map_cons, List.map_nil, List.length_cons, List.length_nil, List.replicate, List.cons_append, List.nil_append, List.getElem?_cons_zero, List.getElem?_cons_succ, List.set, List.take_succ_cons, List.take_zero, List.drop_succ_cons, List.drop_zero, List.reverse_cons, List.reverse_nil, Int.reduceLE, Int.reduceLT, Int.reduceNeg, Int.reduceToNat, true_and, and_true, and_self, beq_iff_eq, Bool.and_eq_true, Bool.or_eq_true, or_false, false_or, or_true, true_or, and_false, false_and, hu_hr, hr_hr, hr_at, hr_nc, not_false_eq_true, Int.reduceEq, Int.pow_zero, Int.reducePow, Int.reduceMul, Int.reduceAdd, Int.reduceDiv, Int.reduceMod, Int.zero_add, Int.add_zero, Int.mul_one])
  · next e => rw [if_pos e, if_pos e, hr_id] at h; exact h _
  · next e => rw [if_neg e, if_neg e] at h; exact h _
set_option maxHeartbeats 4000000 in
set_option maxRecDepth 100000 in
theorem zero_step {S : Hp} {l z : Int} {x3 : Option MV} {Q : Option MV → Hp → Prop} (hz : 0 ≤ z ∧ z < 3 * S 0 31 2) (hz2 : 0 ≤ S 0 31 2 ∧ S 0 31 2 ≤ 256)
    (h : Wp 135 174 [some (.inr (0, 30)), some (.inl l), some (.inl (z + 1)), x3] [] (hr S 0 31 (up (S 0 31) (65 + z) 0)) Q) :
    Wp 135 174 [some (.inr (0, 30)), some (.inl l), some (.inl z), x3] [] S Q := by
  refine vg_cut (fun m pc => (m == 135 && pc == 174)) (fun m => m == 135) 200 _ _ _ _ _ _ ?_
  repeat' first | (with_reducible refine vT ?_ ?_; · omega) | (with_reducible refine vF ?_ ?_; · omega) | (with_reducible refine vI (fun _ => ?_) (fun _ => ?_)) | (simp (config := {maxSteps := 1000000}) (disch := (first | assumption | omega | (rw [hr_at]; assumption) | (rw [hr_at]; omega))) only [f_X8_messagesCome, wg_0, wg_s, wK_none, wK_N, wK_C, wK_R, wQ_some, wQ_none, stR, mZ, mC, stI, ini, mL, gI, gA, sI, sA, bi, gF, pF, kF, kT, kL, c2, mT, mR, f4, tsw, lsw, tgt, inR, Nat.reduceLT, Nat.reduceLeDiff, Nat.reduceEqDiff, Nat.reduceAdd, Nat.reduceSub, ↓reduceIte, Bool.false_eq_true, List.map_cons, List.map_nil, List.length_cons, List.length_nil, List.replicate, List.cons_append, List.nil_append, List.getElem?_cons_zero, List.getElem?_cons_succ, List.set, List.take_succ_cons, List.take_zero, List.drop_succ_cons, List.drop_zero, List.reverse_cons, List.reverse_nil, Int.reduceLE, Int.reduceLT, Int.reduceNeg, Int.reduceToNat, true_and, and_true, and_self, beq_iff_eq, Bool.and_eq_true, Bool.or_eq_true, or_false, false_or, or_true, true_or, and_false, false_and, hu_hr, hr_hr, hr_at, hr_nc, not_false_eq_true, Int.reduceEq, Int.pow_zero, Int.reducePow, Int.reduceMul, Int.reduceAdd, Int.reduceDiv, Int.reduceMod, Int.zero_add, Int.add_zero, Int.mul_one])
  exact h
set_option maxHeartbeats 4000000 in
set_option maxRecDepth 100000 in
theorem zero_end {S : Hp} {l z : Int} {x3 : Option MV} {Q : Option MV → Hp → Prop} (hz : z = 3 * S 0 31 2) (hz2 : 0 ≤ S 0 31 2 ∧ S 0 31 2 ≤ 256)
    (h : Q none (hr S 0 31 (up (S 0 31) 2 l))) : Wp 135 174 [some (.inr (0, 30)), some (.inl l), some (.inl z), x3] [] S Q := by
  refine vg_cut (fun m pc => (m == 135 && pc == 174)) (fun m => m == 135) 200 _ _ _ _ _ _ ?_
  repeat' first | (with_reducible refine vT ?_ ?_; · omega) | (with_reducible refine vF ?_ ?_; · omega) | (with_reducible refine vI (fun _ => ?_) (fun _ => ?_)) | (simp (config := {maxSteps := 1000000}) (disch := (first | assumption | omega | (rw [hr_at]; assumption) | (rw [hr_at]; omega))) only [f_X8_messagesCome, wg_0, wg_s, wK_none, wK_N, wK_C, wK_R, wQ_some, wQ_none, stR, mZ, mC, stI, ini, mL, gI, gA, sI, sA, bi, gF, pF, kF, kT, kL, c2, mT, mR, f4, tsw, lsw, tgt, inR, Nat.reduceLT, Nat.reduceLeDiff, Nat.reduceEqDiff, Nat.reduceAdd, Nat.reduceSub, ↓reduceIte, Bool.false_eq_true, List.map_cons, List.map_nil, List.length_cons, List.length_nil, List.replicate, List.cons_append, List.nil_append, List.getElem?_cons_zero, List.getElem?_cons_succ, List.set, List.take_succ_cons, List.take_zero, List.drop_succ_cons, List.drop_zero, List.reverse_cons, List.reverse_nil, Int.reduceLE, Int.reduceLT, Int.reduceNeg, Int.reduceToNat, true_and, and_true, and_self, beq_iff_eq, Bool.and_eq_true, Bool.or_eq_true, or_false, false_or, or_true, true_or, and_false, false_and, hu_hr, hr_hr, hr_at, hr_nc, not_false_eq_true, Int.reduceEq, Int.pow_zero, Int.reducePow, Int.reduceMul, Int.reduceAdd, Int.reduceDiv, Int.reduceMod, Int.zero_add, Int.add_zero, Int.mul_one])
  exact h
set_option maxHeartbeats 4000000 in
set_option maxRecDepth 100000 in
theorem keep_end {S : Hp} {l z : Int} {x3 : Option MV} {Q : Option MV → Hp → Prop} (hz : z = S 0 31 2) (hz2 : 0 ≤ S 0 31 2 ∧ S 0 31 2 ≤ 256) (hl : 0 ≤ l)
    (h : Wp 135 174 [some (.inr (0, 30)), some (.inl l), some (.inl (3 * l)), x3] [] S Q) : Wp 135 92 [some (.inr (0, 30)), some (.inl l), some (.inl z), x3] [] S Q := by
  refine vg_cut (fun m pc => (m == 135 && pc == 92) || (m == 135 && pc == 174)) (fun m => m == 135) 200 _ _ _ _ _ _ ?_
  repeat' first | (with_reducible refine vT ?_ ?_; · omega) | (with_reducible refine vF ?_ ?_; · omega) | (with_reducible refine vI (fun _ => ?_) (fun _ => ?_)) | (simp (config := {maxSteps := 1000000}) (disch := (first | assumption | omega | (rw [hr_at]; assumption) | (rw [hr_at]; omega))) only [f_X8_messagesCome, wg_0, wg_s, wK_none, wK_N, wK_C, wK_R, wQ_some, wQ_none, stR, mZ, mC, stI, ini, mL, gI, gA, sI, sA, bi, gF, pF, kF, kT, kL, c2, mT, mR, f4, tsw, lsw, tgt, inR, Nat.reduceLT, Nat.reduceLeDiff, Nat.reduceEqDiff, Nat.reduceAdd, Nat.reduceSub, ↓reduceIte, Bool.false_eq_true, List.map_cons, List.map_nil, List.length_cons, List.length_nil, List.replicate, List.cons_append, List.nil_append, List.getElem?_cons_zero, List.getElem?_cons_succ, List.set, List.take_succ_cons, List.take_zero, List.drop_succ_cons, List.drop_zero, List.reverse_cons, List.reverse_nil, Int.reduceLE, Int.reduceLT, Int.reduceNeg, Int.reduceToNat, true_and, and_true, and_self, beq_iff_eq, Bool.and_eq_true, Bool.or_eq_true, or_false, false_or, or_true, true_or, and_false, false_and, hu_hr, hr_hr, hr_at, hr_nc, not_false_eq_true, Int.reduceEq, Int.pow_zero, Int.reducePow, Int.reduceMul, Int.reduceAdd, Int.reduceDiv, Int.reduceMod, Int.zero_add, Int.add_zero, Int.mul_one])
  exact h
set_option maxHeartbeats 4000000 in
set_option maxRecDepth 100000 in
theorem msgs_end {S : Hp} {z : Int} {x2 x3 : Option MV} {Q : Option MV → Hp → Prop} (hz : z = S 0 31 2) (hz2 : 0 ≤ S 0 31 2 ∧ S 0 31 2 ≤ 256)
    (h : Wp 135 92 [some (.inr (0, 30)), some (.inl 0), some (.inl 0), x3] [] S Q) : Wp 135 2 [some (.inr (0, 30)), some (.inl z), x2, x3] [] S Q := by
  refine vg_cut (fun m pc => (m == 135 && pc == 92) || (m == 135 && pc == 2)) (fun m => m == 135) 200 _ _ _ _ _ _ ?_
  repeat' first | (with_reducible refine vT ?_ ?_; · omega) | (with_reducible refine vF ?_ ?_; · omega) | (with_reducible refine vI (fun _ => ?_) (fun _ => ?_)) | (simp (config := {maxSteps := 1000000}) (disch := (first | assumption | omega | (rw [hr_at]; assumption) | (rw [hr_at]; omega))) only [f_X8_messagesCome, wg_0, wg_s, wK_none, wK_N, wK_C, wK_R, wQ_some, wQ_none, stR, mZ, mC, stI, ini, mL, gI, gA, sI, sA, bi, gF, pF, kF, kT, kL, c2, mT, mR, f4, tsw, lsw, tgt, inR, Nat.reduceLT, Nat.reduceLeDiff, Nat.reduceEqDiff, Nat.reduceAdd, Nat.reduceSub, ↓reduceIte, Bool.false_eq_true, List.map_cons, List.map_nil, List.length_cons, List.length_nil, List.replicate, List.cons_append, List.nil_append, List.getElem?_cons_zero, List.getElem?_cons_succ, List.set, List.take_succ_cons, List.take_zero, List.drop_succ_cons, List.drop_zero, List.reverse_cons, List.reverse_nil, Int.reduceLE, Int.reduceLT, Int.reduceNeg, Int.reduceToNat, true_and, and_true, and_self, beq_iff_eq, Bool.and_eq_true, Bool.or_eq_true, or_false, false_or, or_true, true_or, and_false, false_and, hu_hr, hr_hr, hr_at, hr_nc, not_false_eq_true, Int.reduceEq, Int.pow_zero, Int.reducePow, Int.reduceMul, Int.reduceAdd, Int.reduceDiv, Int.reduceMod, Int.zero_add, Int.add_zero, Int.mul_one])
  exact h
set_option maxHeartbeats 4000000 in
set_option maxRecDepth 100000 in
theorem msgs_loop {S : Hp} {M : Int → Int} {N : Nat} {Q : Option MV → Hp → Prop} (hN : N ≤ 255) (hy : ∀ k : Nat, k < N → Gm (m1 M k) ∧ (0 ≤ m1 M k 0 ∧ m1 M k 0 < 2147483648) ∧ MsW (m1 M k) k ∧ (k : Int) < m1 M k 2)
    (h : ∀ x2 x3, Wp 135 2 [some (.inr (0, 30)), some (.inl (N : Int)), x2, x3] [] (hr S 0 31 (m1 M N)) Q) : ∀ d k : Nat, k + d = N → ∀ x2 x3, Wp 135 2 [some (.inr (0, 30)), some (.inl (k : Int)), x2, x3] [] (hr S 0 31 (m1 M k)) Q := by
  intro d
  induction d with
  | zero =>
    intro k hk
    obtain rfl : k = N := by omega
    exact h
  | succ d ih =>
    intro k hk x2 x3
    obtain ⟨g1, g2, g3, g4⟩ := hy k (by omega)
    refine msgs_step (by rw [hr_at]; exact g1) (by rw [hr_at]; exact g2) (by rw [hr_at]; exact g3) ⟨by omega, by rw [hr_at]; exact g4⟩ (by omega) (fun y => ?_)
    rw [hr_hr, hr_at]
    have h1 := ih (k + 1) (by omega) y x3
    rw [Int.natCast_add] at h1
    exact h1
set_option maxHeartbeats 4000000 in
set_option maxRecDepth 100000 in
theorem keep_loop {S : Hp} {A : Int → Int} {N : Nat} {Q : Option MV → Hp → Prop} (hN : N ≤ 255) (ht : 0 ≤ A 0 ∧ A 0 < 2147483648) (h2 : A 2 = N) (hd : ∀ k : Nat, k < N → 0 ≤ A (65 + 3 * (k : Int)) ∧ A (65 + 3 * (k : Int)) < 2147483648)
    (h : ∀ x3, Wp 135 92 [some (.inr (0, 30)), some (.inl (m2 A N).2), some (.inl (N : Int)), x3] [] (hr S 0 31 (m2 A N).1) Q) : ∀ d k : Nat, k + d = N → ∀ x3, Wp 135 92 [some (.inr (0, 30)), some (.inl (m2 A k).2), some (.inl (k : Int)), x3] [] (hr S 0 31 (m2 A k).1) Q := by
  intro d
  induction d with
  | zero =>
    intro k hk
    obtain rfl : k = N := by omega
    exact h
  | succ d ih =>
    intro k hk x3
    obtain ⟨b1, b2, b3, b4⟩ := m2_b A k
    refine keep_step (by rw [hr_at, b3 0 (by omega)]; exact ht) (by rw [hr_at, b4 _ (by omega)]; exact hd k (by omega)) ⟨by omega, by rw [hr_at, b3 2 (by omega), h2]; omega⟩ (by rw [hr_at, b3 2 (by omega), h2]; omega) ⟨b1, b2⟩ (fun y => ?_)
    rw [hr_hr, hr_at]
    have h1 := ih (k + 1) (by omega) y
    rw [Int.natCast_add] at h1
    unfold m2 at h1
    by_cases e : (m2 A k).1 (65 + 3 * (k : Int)) = (m2 A k).1 0
    · rw [if_pos e] at h1
      rw [if_pos e, if_pos e]
      exact h1
    · rw [if_neg e] at h1
      rw [if_neg e, if_neg e]
      exact h1
set_option maxHeartbeats 4000000 in
set_option maxRecDepth 100000 in
theorem zero_loop {S : Hp} {A : Int → Int} {a l : Int} {N : Nat} {x3 : Option MV} {Q : Option MV → Hp → Prop} (ha : 0 ≤ a) (hN : N ≤ 255) (h2 : A 2 = N) (n : Nat) (hn : a + n = 3 * N)
    (h : Q none (hr S 0 31 (up (m3 A a n) 2 l))) : ∀ d j : Nat, j + d = n → Wp 135 174 [some (.inr (0, 30)), some (.inl l), some (.inl (a + (j : Int))), x3] [] (hr S 0 31 (m3 A a j)) Q := by
  intro d
  induction d with
  | zero =>
    intro j hj
    obtain rfl : j = n := by omega
    have e := m3_ne A a 2 j (by omega)
    refine zero_end (by rw [hr_at, e]; omega) (by rw [hr_at, e]; omega) ?_
    rw [hr_hr, hr_at]
    exact h
  | succ d ih =>
    intro j hj
    have e := m3_ne A a 2 j (by omega)
    refine zero_step (by rw [hr_at, e]; omega) (by rw [hr_at, e]; omega) ?_
    rw [hr_hr, hr_at]
    have h1 := ih (j + 1) (by omega)
    have e2 : a + ((j + 1 : Nat) : Int) = a + (j : Int) + 1 := by omega
    rw [e2] at h1
    exact h1
def mmM (M : Int → Int) (N : Nat) : Int → Int := up (m3 (m2 (m1 M N) N).1 (3 * (m2 (m1 M N) N).2) (3 * (N : Int) - 3 * (m2 (m1 M N) N).2).toNat) 2 (m2 (m1 M N) N).2
set_option maxHeartbeats 4000000 in
set_option maxRecDepth 100000 in
theorem m_messagesCome {S : Hp} {N : Nat} (hN : N ≤ 255) (hy : ∀ k : Nat, k < N → Gm (m1 (S 0 31) k) ∧ (0 ≤ m1 (S 0 31) k 0 ∧ m1 (S 0 31) k 0 < 2147483648) ∧ MsW (m1 (S 0 31) k) k ∧ (k : Int) < m1 (S 0 31) k 2)
    (ht : 0 ≤ m1 (S 0 31) N 0 ∧ m1 (S 0 31) N 0 < 2147483648) (h2 : m1 (S 0 31) N 2 = N) (hd : ∀ k : Nat, k < N → 0 ≤ m1 (S 0 31) N (65 + 3 * (k : Int)) ∧ m1 (S 0 31) N (65 + 3 * (k : Int)) < 2147483648) (Q : Option MV → Hp → Prop) :
    Wc 135 [.inr (0, 30)] S Q = Q none (hr S 0 31 (mmM (S 0 31) N)) := by
  refine Wc_eq ?_ Q
  unfold Wc
  refine vg_sound (fun m pc => (m == 135 && pc == 2)) (fun m => m == 135) 3 _ _ _ _ _ _ ?_
  repeat' first | (with_reducible refine vT ?_ ?_; · omega) | (with_reducible refine vF ?_ ?_; · omega) | (with_reducible refine vI (fun _ => ?_) (fun _ => ?_)) | (simp (config := {maxSteps := 1000000}) only [f_X8_messagesCome, wg_0, wg_s, wK_none, wK_N, wK_C, wK_R, wQ_some, wQ_none, stR, mZ, mC, stI, ini, mL, gI, gA, sI, sA, bi, gF, pF, kF, kT, kL, c2, mT, mR, f4, tsw, lsw, tgt, inR, Nat.reduceLT, Nat.reduceLeDiff, Nat.reduceEqDiff, Nat.reduceAdd, Nat.reduceSub, ↓reduceIte, Bool.false_eq_true, List.map_cons, List.map_nil, List.length_cons, List.length_nil, List.replicate, List.cons_append, List.nil_append, List.getElem?_cons_zero, List.getElem?_cons_succ, List.set, List.take_succ_cons, List.take_zero, List.drop_succ_cons, List.drop_zero, List.reverse_cons, List.reverse_nil, Int.reduceLE, Int.reduceLT, Int.reduceNeg, Int.reduceToNat, true_and, and_true, and_self, beq_iff_eq, Bool.and_eq_true, Bool.or_eq_true, or_false, false_or, or_true, true_or, and_false, false_and, hu_hr, hr_hr, hr_at, hr_nc, not_false_eq_true, Int.reduceEq, Int.pow_zero, Int.reducePow, Int.reduceMul, Int.reduceAdd, Int.reduceDiv, Int.reduceMod, Int.zero_add, Int.add_zero, Int.mul_one])
  have hS : hr S 0 31 (m1 (S 0 31) 0) = S := hr_id S 0 31
  have hgo := msgs_loop (S := S) (M := S 0 31) (Q := fun r T => r = none ∧ T = hr S 0 31 (mmM (S 0 31) N)) hN hy (fun x2 x3 => ?_) N 0 (by omega) none none
  · rw [hS] at hgo
    exact hgo
  · obtain ⟨b1, b2, b3, b4⟩ := m2_b (m1 (S 0 31) N) N
    refine msgs_end (by rw [hr_at, h2]) (by rw [hr_at, h2]; omega) ?_
    have hk := keep_loop (S := S) (A := m1 (S 0 31) N) (Q := fun r T => r = none ∧ T = hr S 0 31 (mmM (S 0 31) N)) hN ht h2 hd (fun x3 => ?_) N 0 (by omega) x3
    · exact hk
    · refine keep_end (by rw [hr_at, b3 2 (by omega), h2]) (by rw [hr_at, b3 2 (by omega), h2]; omega) b1 ?_
      have hz := zero_loop (S := S) (A := (m2 (m1 (S 0 31) N) N).1) (a := 3 * (m2 (m1 (S 0 31) N) N).2) (l := (m2 (m1 (S 0 31) N) N).2) (x3 := x3) (Q := fun r T => r = none ∧ T = hr S 0 31 (mmM (S 0 31) N)) (by omega) hN (by rw [b3 2 (by omega), h2]) (3 * (N : Int) - 3 * (m2 (m1 (S 0 31) N) N).2).toNat (by omega) ⟨rfl, rfl⟩ _ 0 (Nat.zero_add _)
      have e0 : 3 * (m2 (m1 (S 0 31) N) N).2 + ((0 : Nat) : Int) = 3 * (m2 (m1 (S 0 31) N) N).2 := by omega
      rw [e0] at hz
      exact hz
