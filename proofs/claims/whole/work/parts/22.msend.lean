/-! THE REFERENCE's row: marks, messages, payments -/
set_option maxHeartbeats 4000000 in
set_option maxRecDepth 100000 in
theorem up_id (f : Int → Int) (i : Int) : up f i (f i) = f := by
  funext j
  unfold up
  split
  · next h => rw [h]
  · rfl
def mkM (M : Int → Int) (t : Int) (f : Nat) (b : Int) : Int → Int := up M (833 + t) (M (833 + t) + (b - qb M t f) * 2 ^ f)
set_option maxHeartbeats 4000000 in
set_option maxRecDepth 100000 in
theorem xor_bit : ∀ f, f < 8 → ∀ a, a < 256 → (a ^^^ 2 ^ f) + 2 * (a / 2 ^ f % 2 * 2 ^ f) = a + 2 ^ f := by decide +kernel
set_option maxHeartbeats 4000000 in
set_option maxRecDepth 100000 in
theorem xorI {z : Int} {f : Nat} (hz : 0 ≤ z ∧ z < 256) (hf : f < 8) : bXor z (2 ^ f) = z + 2 ^ f - 2 * (z / 2 ^ f % 2 * 2 ^ f) := by
  obtain ⟨a, rfl⟩ : ∃ a : Nat, z = a := ⟨z.toNat, by omega⟩
  have hp : (2 : Nat) ^ f < 256 := Nat.pow_lt_pow_right (by decide) hf
  have e := bX a (2 ^ f) (by omega) (by omega)
  have e2 : (((2 : Nat) ^ f : Nat) : Int) = 2 ^ f := by simp
  rw [e2] at e
  rw [e]
  have h := xor_bit f hf a (by omega)
  have h3 : (((a ^^^ 2 ^ f) + 2 * (a / 2 ^ f % 2 * 2 ^ f) : Nat) : Int) = ((a + 2 ^ f : Nat) : Int) := by rw [h]
  push_cast at h3
  omega
set_option maxHeartbeats 4000000 in
set_option maxRecDepth 100000 in
theorem m_mark {S : Hp} {t f b : Int} (hF : FlB (S 0 31)) (ht : 0 ≤ t ∧ t < 600) (hf : 0 ≤ f ∧ f < 8) (hb : b = 0 ∨ b = 1) (Q : Option MV → Hp → Prop) : Wc 116 [.inr (0, 30), .inl t, .inl f, .inl b] S Q = Q none (hr S 0 31 (mkM (S 0 31) t f.toNat b)) := by
  refine Wc_eq ?_ Q
  unfold Wc
  have h1 := hF t ht.1 ht.2
  have hq := qb_01 (S 0 31) t f.toNat
  have hp : (0 : Int) < 2 ^ f.toNat := Int.pow_pos (by decide)
  have hp2 : (2 : Int) ^ f.toNat < 256 := by
    rcases (show f = 0 ∨ f = 1 ∨ f = 2 ∨ f = 3 ∨ f = 4 ∨ f = 5 ∨ f = 6 ∨ f = 7 by omega) with rfl | rfl | rfl | rfl | rfl | rfl | rfl | rfl <;> decide
  have hx := xorI h1 (f := f.toNat) (by omega)
  have e2 : qb (S 0 31) t f.toNat = S 0 31 (833 + t) / 2 ^ f.toNat % 2 := rfl
  rw [← e2] at hx
  refine vg_sound (fun _ _ => false) (fun m => m == 116) 60 _ _ _ _ _ _ ?_
  repeat' first | (with_reducible refine vT ?_ ?_; · omega) | (with_reducible refine vF ?_ ?_; · omega) | (with_reducible refine vI (fun _ => ?_) (fun _ => ?_)) | (simp (config := {maxSteps := 1000000}) (disch := (first | assumption | omega | (rw [hr_at]; assumption) | (rw [hr_at]; omega))) only [f_X8_mark, wg_0, wg_s, wK_none, wK_N, wK_C, wK_R, wQ_some, wQ_none, stR, mZ, mC, stI, ini, mL, gI, gA, sI, sA, bi, gF, pF, kF, kT, kL, c2, mT, mR, f4, tsw, lsw, tgt, inR, Nat.reduceLT, Nat.reduceLeDiff, Nat.reduceEqDiff, Nat.reduceAdd, Nat.reduceSub, ↓reduceIte, Bool.false_eq_true, List.map_cons, List.map_nil, List.length_cons, List.length_nil, List.replicate, List.cons_append, List.nil_append, List.getElem?_cons_zero, List.getElem?_cons_succ, List.set, List.take_succ_cons, List.take_zero, List.drop_succ_cons, List.drop_zero, List.reverse_cons, List.reverse_nil, Int.reduceLE, Int.reduceLT, Int.reduceNeg, Int.reduceToNat, true_and, and_true, and_self, beq_iff_eq, Bool.and_eq_true, Bool.or_eq_true, or_false, false_or, or_true, true_or, and_false, false_and, hu_hr, hr_hr, hr_at, hr_nc, not_false_eq_true, Int.reduceEq, Int.pow_zero, Int.reducePow, Int.reduceMul, Int.reduceAdd, Int.reduceDiv, Int.reduceMod, Int.zero_add, Int.add_zero, Int.mul_one, m_is, hF, Int.one_mul])
  · next e =>
    unfold mkM
    rw [e, Int.sub_self, Int.zero_mul, Int.add_zero, up_id, hr_id]
  · next e =>
    unfold mkM
    have hx2 : bXor (S 0 31 (833 + t)) (2 ^ f.toNat) = S 0 31 (833 + t) + (b - qb (S 0 31) t f.toNat) * 2 ^ f.toNat := by
      rw [hx]
      rcases hq with g | g <;> rcases hb with g2 | g2 <;> first | (exfalso; omega) | (rw [g, g2]; omega)
    rw [hx2]
def sdM (M : Int → Int) (kind to from_ t : Int) : Int → Int := up (up (up (up M (65 + 3 * M 2) (M 0 + M 6)) (65 + 3 * M 2 + 1) (100 * kind + 10 * to + from_)) (65 + 3 * M 2 + 2) t) 2 (M 2 + 1)
set_option maxHeartbeats 4000000 in
set_option maxRecDepth 100000 in
theorem m_send {S : Hp} {kind to from_ t : Int} (hn : 0 ≤ S 0 31 2 ∧ S 0 31 2 < 256) (Q : Option MV → Hp → Prop) : Wc 127 [.inr (0, 30), .inl kind, .inl to, .inl from_, .inl t] S Q = Q none (hr S 0 31 (sdM (S 0 31) kind to from_ t)) := by
  refine Wc_eq ?_ Q
  unfold Wc
  refine vg_sound (fun _ _ => false) (fun m => m == 127) 80 _ _ _ _ _ _ ?_
  repeat' first | (with_reducible refine vT ?_ ?_; · omega) | (with_reducible refine vF ?_ ?_; · omega) | (with_reducible refine vI (fun _ => ?_) (fun _ => ?_)) | (simp (config := {maxSteps := 1000000}) (disch := (first | assumption | omega | (rw [hr_at]; assumption) | (rw [hr_at]; omega))) only [f_X8_send, wg_0, wg_s, wK_none, wK_N, wK_C, wK_R, wQ_some, wQ_none, stR, mZ, mC, stI, ini, mL, gI, gA, sI, sA, bi, gF, pF, kF, kT, kL, c2, mT, mR, f4, tsw, lsw, tgt, inR, Nat.reduceLT, Nat.reduceLeDiff, Nat.reduceEqDiff, Nat.reduceAdd, Nat.reduceSub, ↓reduceIte, Bool.false_eq_true, List.map_cons, List.map_nil, List.length_cons, List.length_nil, List.replicate, List.cons_append, List.nil_append, List.getElem?_cons_zero, List.getElem?_cons_succ, List.set, List.take_succ_cons, List.take_zero, List.drop_succ_cons, List.drop_zero, List.reverse_cons, List.reverse_nil, Int.reduceLE, Int.reduceLT, Int.reduceNeg, Int.reduceToNat, true_and, and_true, and_self, beq_iff_eq, Bool.and_eq_true, Bool.or_eq_true, or_false, false_or, or_true, true_or, and_false, false_and, hu_hr, hr_hr, hr_at, hr_nc, not_false_eq_true, Int.reduceEq, Int.pow_zero, Int.reducePow, Int.reduceMul, Int.reduceAdd, Int.reduceDiv, Int.reduceMod, Int.zero_add, Int.add_zero, Int.mul_one])
  unfold sdM
  simp (disch := omega) only [up_ne, true_and]
def awM (M : Int → Int) (w r : Int) : Int → Int := up (up M (8 + 15 * w + 13) (M (8 + 15 * w + 13) + 1)) (8 + 15 * w + 14) r
set_option maxHeartbeats 4000000 in
set_option maxRecDepth 100000 in
theorem m_sendAway {S : Hp} {w r : Int} (hw : 0 ≤ w ∧ w < 3) (Q : Option MV → Hp → Prop) : Wc 129 [.inr (0, 30), .inl w, .inl r] S Q = Q none (hr S 0 31 (awM (S 0 31) w r)) := by
  refine Wc_eq ?_ Q
  unfold Wc
  refine vg_sound (fun _ _ => false) (fun m => m == 129 || m == 119 || m == 118 || m == 117) 80 _ _ _ _ _ _ ?_
  repeat' first | (with_reducible refine vT ?_ ?_; · omega) | (with_reducible refine vF ?_ ?_; · omega) | (with_reducible refine vI (fun _ => ?_) (fun _ => ?_)) | (simp (config := {maxSteps := 1000000}) (disch := (first | assumption | omega | (rw [hr_at]; assumption) | (rw [hr_at]; omega))) only [f_X8_sendAway, f_X8_more, f_X8_put, f_X8_at, wg_0, wg_s, wK_none, wK_N, wK_C, wK_R, wQ_some, wQ_none, stR, mZ, mC, stI, ini, mL, gI, gA, sI, sA, bi, gF, pF, kF, kT, kL, c2, mT, mR, f4, tsw, lsw, tgt, inR, Nat.reduceLT, Nat.reduceLeDiff, Nat.reduceEqDiff, Nat.reduceAdd, Nat.reduceSub, ↓reduceIte, Bool.false_eq_true, List.map_cons, List.map_nil, List.length_cons, List.length_nil, List.replicate, List.cons_append, List.nil_append, List.getElem?_cons_zero, List.getElem?_cons_succ, List.set, List.take_succ_cons, List.take_zero, List.drop_succ_cons, List.drop_zero, List.reverse_cons, List.reverse_nil, Int.reduceLE, Int.reduceLT, Int.reduceNeg, Int.reduceToNat, true_and, and_true, and_self, beq_iff_eq, Bool.and_eq_true, Bool.or_eq_true, or_false, false_or, or_true, true_or, and_false, false_and, hu_hr, hr_hr, hr_at, hr_nc, not_false_eq_true, Int.reduceEq, Int.pow_zero, Int.reducePow, Int.reduceMul, Int.reduceAdd, Int.reduceDiv, Int.reduceMod, Int.zero_add, Int.add_zero, Int.mul_one])
  trivial
def frM (M : Int → Int) (w : Int) : Int → Int := up (up M (8 + 15 * w + 9) 0) (8 + 15 * w + 10) 0
set_option maxHeartbeats 4000000 in
set_option maxRecDepth 100000 in
theorem m_free {S : Hp} {w : Int} (hw : 0 ≤ w ∧ w < 3) (Q : Option MV → Hp → Prop) : Wc 130 [.inr (0, 30), .inl w] S Q = Q none (hr S 0 31 (frM (S 0 31) w)) := by
  refine Wc_eq ?_ Q
  unfold Wc
  refine vg_sound (fun _ _ => false) (fun m => m == 130 || m == 118) 80 _ _ _ _ _ _ ?_
  repeat' first | (with_reducible refine vT ?_ ?_; · omega) | (with_reducible refine vF ?_ ?_; · omega) | (with_reducible refine vI (fun _ => ?_) (fun _ => ?_)) | (simp (config := {maxSteps := 1000000}) (disch := (first | assumption | omega | (rw [hr_at]; assumption) | (rw [hr_at]; omega))) only [f_X8_free, f_X8_put, wg_0, wg_s, wK_none, wK_N, wK_C, wK_R, wQ_some, wQ_none, stR, mZ, mC, stI, ini, mL, gI, gA, sI, sA, bi, gF, pF, kF, kT, kL, c2, mT, mR, f4, tsw, lsw, tgt, inR, Nat.reduceLT, Nat.reduceLeDiff, Nat.reduceEqDiff, Nat.reduceAdd, Nat.reduceSub, ↓reduceIte, Bool.false_eq_true, List.map_cons, List.map_nil, List.length_cons, List.length_nil, List.replicate, List.cons_append, List.nil_append, List.getElem?_cons_zero, List.getElem?_cons_succ, List.set, List.take_succ_cons, List.take_zero, List.drop_succ_cons, List.drop_zero, List.reverse_cons, List.reverse_nil, Int.reduceLE, Int.reduceLT, Int.reduceNeg, Int.reduceToNat, true_and, and_true, and_self, beq_iff_eq, Bool.and_eq_true, Bool.or_eq_true, or_false, false_or, or_true, true_or, and_false, false_and, hu_hr, hr_hr, hr_at, hr_nc, not_false_eq_true, Int.reduceEq, Int.pow_zero, Int.reducePow, Int.reduceMul, Int.reduceAdd, Int.reduceDiv, Int.reduceMod, Int.zero_add, Int.add_zero, Int.mul_one])
  trivial
set_option maxHeartbeats 4000000 in
set_option maxRecDepth 100000 in
theorem FlB_up {M : Int → Int} {i v : Int} (hF : FlB M) (hi : i < 833 ∨ 1433 ≤ i) : FlB (up M i v) := by
  intro t h1 h2
  rw [up_ne (by omega)]
  exact hF t h1 h2
set_option maxHeartbeats 4000000 in
set_option maxRecDepth 100000 in
theorem DrW_up {M : Int → Int} {i v : Int} (hW : DrW M) (hi : i < 53 ∨ 65 ≤ i) : DrW (up M i v) := by
  intro d h1 h2
  rw [up_ne (by omega), up_ne (by omega)]
  exact hW d h1 h2
set_option maxHeartbeats 4000000 in
set_option maxRecDepth 100000 in
theorem FlB_mk {M : Int → Int} {t : Int} {f : Nat} {b : Int} (hF : FlB M) (hf : f < 8) (hb : b = 0 ∨ b = 1) : FlB (mkM M t f b) := by
  intro t' h1 h2
  unfold mkM
  by_cases e : t' = t
  · subst e
    rw [up_eq rfl]
    have h := hF t' h1 h2
    unfold qb
    rcases (show f = 0 ∨ f = 1 ∨ f = 2 ∨ f = 3 ∨ f = 4 ∨ f = 5 ∨ f = 6 ∨ f = 7 by omega) with rfl | rfl | rfl | rfl | rfl | rfl | rfl | rfl <;> simp only [Int.reducePow, Int.pow_zero] <;> omega
  · rw [up_ne (by omega)]
    exact hF t' h1 h2
def moM (M : Int → Int) (w f b : Int) : Int → Int := up M (8 + 15 * w + f) (M (8 + 15 * w + f) + b)
set_option maxHeartbeats 4000000 in
set_option maxRecDepth 100000 in
theorem m_more {S : Hp} {w f b : Int} (hw : 0 ≤ w ∧ w < 3) (hf : 0 ≤ f ∧ f < 15) (Q : Option MV → Hp → Prop) : Wc 119 [.inr (0, 30), .inl w, .inl f, .inl b] S Q = Q none (hr S 0 31 (moM (S 0 31) w f b)) := by
  refine Wc_eq ?_ Q
  unfold Wc
  refine vg_sound (fun _ _ => false) (fun m => m == 119 || m == 118 || m == 117) 80 _ _ _ _ _ _ ?_
  repeat' first | (with_reducible refine vT ?_ ?_; · omega) | (with_reducible refine vF ?_ ?_; · omega) | (with_reducible refine vI (fun _ => ?_) (fun _ => ?_)) | (simp (config := {maxSteps := 1000000}) (disch := (first | assumption | omega | (rw [hr_at]; assumption) | (rw [hr_at]; omega))) only [f_X8_more, f_X8_put, f_X8_at, wg_0, wg_s, wK_none, wK_N, wK_C, wK_R, wQ_some, wQ_none, stR, mZ, mC, stI, ini, mL, gI, gA, sI, sA, bi, gF, pF, kF, kT, kL, c2, mT, mR, f4, tsw, lsw, tgt, inR, Nat.reduceLT, Nat.reduceLeDiff, Nat.reduceEqDiff, Nat.reduceAdd, Nat.reduceSub, ↓reduceIte, Bool.false_eq_true, List.map_cons, List.map_nil, List.length_cons, List.length_nil, List.replicate, List.cons_append, List.nil_append, List.getElem?_cons_zero, List.getElem?_cons_succ, List.set, List.take_succ_cons, List.take_zero, List.drop_succ_cons, List.drop_zero, List.reverse_cons, List.reverse_nil, Int.reduceLE, Int.reduceLT, Int.reduceNeg, Int.reduceToNat, true_and, and_true, and_self, beq_iff_eq, Bool.and_eq_true, Bool.or_eq_true, or_false, false_or, or_true, true_or, and_false, false_and, hu_hr, hr_hr, hr_at, hr_nc, not_false_eq_true, Int.reduceEq, Int.pow_zero, Int.reducePow, Int.reduceMul, Int.reduceAdd, Int.reduceDiv, Int.reduceMod, Int.zero_add, Int.add_zero, Int.mul_one])
  trivial
def payM0 (M : Int → Int) (w t : Int) : Int → Int := up (moM (moM M w 11 (przM M t)) w 12 1) (2033 + 600 * w + t) (moM (moM M w 11 (przM M t)) w 12 1 0 + 1)
def payM1 (M : Int → Int) (w t : Int) : Int → Int := mkM (payM0 M w t) t (2 + w).toNat 1
def payM (M : Int → Int) (w t : Int) : Int → Int :=
  if w = 0 then sdM (sdM (payM1 M w t) 0 1 w t) 0 2 w t else if w = 1 then sdM (sdM (payM1 M w t) 0 0 w t) 0 2 w t else sdM (sdM (payM1 M w t) 0 0 w t) 0 1 w t
set_option maxHeartbeats 4000000 in
set_option maxRecDepth 100000 in
theorem FlB_mo {M : Int → Int} {w f b : Int} (hF : FlB M) (hw : 0 ≤ w ∧ w < 3) (hf : 0 ≤ f ∧ f < 15) : FlB (moM M w f b) := FlB_up hF (by omega)
set_option maxHeartbeats 4000000 in
set_option maxRecDepth 100000 in
theorem FlB_pay0 {M : Int → Int} {w t : Int} (hF : FlB M) (hw : 0 ≤ w ∧ w < 3) (ht : 0 ≤ t ∧ t < 600) : FlB (payM0 M w t) := FlB_up (FlB_mo (FlB_mo hF hw (by omega)) hw (by omega)) (by omega)
set_option maxHeartbeats 4000000 in
set_option maxRecDepth 100000 in
theorem payM1_2 {M : Int → Int} {w t : Int} (hw : 0 ≤ w ∧ w < 3) (ht : 0 ≤ t ∧ t < 600) : payM1 M w t 2 = M 2 := by
  unfold payM1 mkM payM0 moM
  rw [up_ne (by omega), up_ne (by omega), up_ne (by omega), up_ne (by omega)]
set_option maxHeartbeats 4000000 in
set_option maxRecDepth 100000 in
theorem sdM_2 {M : Int → Int} {a b c d : Int} : sdM M a b c d 2 = M 2 + 1 := up_eq rfl
set_option maxHeartbeats 4000000 in
set_option maxRecDepth 100000 in
theorem m_pay {S : Hp} {w t : Int} (hF : FlB (S 0 31)) (hW : DrW (S 0 31)) (hn : 0 ≤ S 0 31 2 ∧ S 0 31 2 < 255) (hw : 0 ≤ w ∧ w < 3) (ht : 0 ≤ t ∧ t < 600) (Q : Option MV → Hp → Prop) : Wc 128 [.inr (0, 30), .inl w, .inl t] S Q = Q none (hr S 0 31 (payM (S 0 31) w t)) := by
  refine Wc_eq ?_ Q
  unfold Wc
  have hF1 := FlB_pay0 hF hw ht
  have h2 := payM1_2 (M := S 0 31) hw ht
  have h3 := sdM_2 (M := payM1 (S 0 31) w t) (a := 0) (b := 0) (c := w) (d := t)
  have h4 := sdM_2 (M := payM1 (S 0 31) w t) (a := 0) (b := 1) (c := w) (d := t)
  unfold payM1 payM0 at h2 h3 h4
  unfold payM0 at hF1
  unfold payM payM1 payM0
  rcases (show w = 0 ∨ w = 1 ∨ w = 2 by omega) with e | e | e
  · rw [if_pos e]
    refine vg_sound (fun _ _ => false) (fun m => m == 128) 120 _ _ _ _ _ _ ?_
    repeat' first | (with_reducible refine vT ?_ ?_; · omega) | (with_reducible refine vF ?_ ?_; · omega) | (with_reducible refine vI (fun _ => ?_) (fun _ => ?_)) | (simp (config := {maxSteps := 1000000}) (disch := (first | assumption | omega | (rw [hr_at]; assumption) | (rw [hr_at]; omega))) only [f_X8_pay, wg_0, wg_s, wK_none, wK_N, wK_C, wK_R, wQ_some, wQ_none, stR, mZ, mC, stI, ini, mL, gI, gA, sI, sA, bi, gF, pF, kF, kT, kL, c2, mT, mR, f4, tsw, lsw, tgt, inR, Nat.reduceLT, Nat.reduceLeDiff, Nat.reduceEqDiff, Nat.reduceAdd, Nat.reduceSub, ↓reduceIte, Bool.false_eq_true, List.map_cons, List.map_nil, List.length_cons, List.length_nil, List.replicate, List.cons_append, List.nil_append, List.getElem?_cons_zero, List.getElem?_cons_succ, List.set, List.take_succ_cons, List.take_zero, List.drop_succ_cons, List.drop_zero, List.reverse_cons, List.reverse_nil, Int.reduceLE, Int.reduceLT, Int.reduceNeg, Int.reduceToNat, true_and, and_true, and_self, beq_iff_eq, Bool.and_eq_true, Bool.or_eq_true, or_false, false_or, or_true, true_or, and_false, false_and, hu_hr, hr_hr, hr_at, hr_nc, not_false_eq_true, Int.reduceEq, Int.pow_zero, Int.reducePow, Int.reduceMul, Int.reduceAdd, Int.reduceDiv, Int.reduceMod, Int.zero_add, Int.add_zero, Int.mul_one, m_prize, m_more, m_mark, m_send, hF, hW, hF1])
    all_goals trivial
  · rw [if_neg (by omega), if_pos e]
    refine vg_sound (fun _ _ => false) (fun m => m == 128) 120 _ _ _ _ _ _ ?_
    repeat' first | (with_reducible refine vT ?_ ?_; · omega) | (with_reducible refine vF ?_ ?_; · omega) | (with_reducible refine vI (fun _ => ?_) (fun _ => ?_)) | (simp (config := {maxSteps := 1000000}) (disch := (first | assumption | omega | (rw [hr_at]; assumption) | (rw [hr_at]; omega))) only [f_X8_pay, wg_0, wg_s, wK_none, wK_N, wK_C, wK_R, wQ_some, wQ_none, stR, mZ, mC, stI, ini, mL, gI, gA, sI, sA, bi, gF, pF, kF, kT, kL, c2, mT, mR, f4, tsw, lsw, tgt, inR, Nat.reduceLT, Nat.reduceLeDiff, Nat.reduceEqDiff, Nat.reduceAdd, Nat.reduceSub, ↓reduceIte, Bool.false_eq_true, List.map_cons, List.map_nil, List.length_cons, List.length_nil, List.replicate, List.cons_append, List.nil_append, List.getElem?_cons_zero, List.getElem?_cons_succ, List.set, List.take_succ_cons, List.take_zero, List.drop_succ_cons, List.drop_zero, List.reverse_cons, List.reverse_nil, Int.reduceLE, Int.reduceLT, Int.reduceNeg, Int.reduceToNat, true_and, and_true, and_self, beq_iff_eq, Bool.and_eq_true, Bool.or_eq_true, or_false, false_or, or_true, true_or, and_false, false_and, hu_hr, hr_hr, hr_at, hr_nc, not_false_eq_true, Int.reduceEq, Int.pow_zero, Int.reducePow, Int.reduceMul, Int.reduceAdd, Int.reduceDiv, Int.reduceMod, Int.zero_add, Int.add_zero, Int.mul_one, m_prize, m_more, m_mark, m_send, hF, hW, hF1])
    all_goals trivial
  · rw [if_neg (by omega), if_neg (by omega)]
    refine vg_sound (fun _ _ => false) (fun m => m == 128) 120 _ _ _ _ _ _ ?_
    repeat' first | (with_reducible refine vT ?_ ?_; · omega) | (with_reducible refine vF ?_ ?_; · omega) | (with_reducible refine vI (fun _ => ?_) (fun _ => ?_)) | (simp (config := {maxSteps := 1000000}) (disch := (first | assumption | omega | (rw [hr_at]; assumption) | (rw [hr_at]; omega))) only [f_X8_pay, wg_0, wg_s, wK_none, wK_N, wK_C, wK_R, wQ_some, wQ_none, stR, mZ, mC, stI, ini, mL, gI, gA, sI, sA, bi, gF, pF, kF, kT, kL, c2, mT, mR, f4, tsw, lsw, tgt, inR, Nat.reduceLT, Nat.reduceLeDiff, Nat.reduceEqDiff, Nat.reduceAdd, Nat.reduceSub, ↓reduceIte, Bool.false_eq_true, List.map_cons, List.map_nil, List.length_cons, List.length_nil, List.replicate, List.cons_append, List.nil_append, List.getElem?_cons_zero, List.getElem?_cons_succ, List.set, List.take_succ_cons, List.take_zero, List.drop_succ_cons, List.drop_zero, List.reverse_cons, List.reverse_nil, Int.reduceLE, Int.reduceLT, Int.reduceNeg, Int.reduceToNat, true_and, and_true, and_self, beq_iff_eq, Bool.and_eq_true, Bool.or_eq_true, or_false, false_or, or_true, true_or, and_false, false_and, hu_hr, hr_hr, hr_at, hr_nc, not_false_eq_true, Int.reduceEq, Int.pow_zero, Int.reducePow, Int.reduceMul, Int.reduceAdd, Int.reduceDiv, Int.reduceMod, Int.zero_add, Int.add_zero, Int.mul_one, m_prize, m_more, m_mark, m_send, hF, hW, hF1])
    all_goals trivial
