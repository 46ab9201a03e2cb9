/-! THE REFERENCE: paid by tickets, what rules would bring -/
def pdV (M : Int → Int) (t : Int) : Int := if 0 < cnI M 0 t + cnI M 1 t + cnI M 2 t then (cnI M 0 t + cnI M 1 t + cnI M 2 t) * przM M t else 0
def pdC (M : Int → Int) : Int := sm (fun k => pdV M (k : Int)) 600
set_option maxHeartbeats 4000000 in
set_option maxRecDepth 100000 in
theorem cnI_01 (M : Int → Int) (w t : Int) : cnI M w t = 0 ∨ cnI M w t = 1 := by
  unfold cnI
  split <;> omega
set_option maxHeartbeats 4000000 in
set_option maxRecDepth 100000 in
theorem pd_in {S : Hp} {b a z m x : Int} {Q : Option MV → Hp → Prop} (hF : FlB (S 0 31)) (hP : PdB (S 0 31)) (hz : 0 ≤ z ∧ z < 600) (hx : 0 ≤ x ∧ x < 3) (h : Wp 184 35 [some (.inr (0, 30)), some (.inl b), some (.inl a), some (.inl z), some (.inl (m + cnI (S 0 31) x z)), some (.inl (x + 1))] [] S Q) : Wp 184 35 [some (.inr (0, 30)), some (.inl b), some (.inl a), some (.inl z), some (.inl m), some (.inl x)] [] S Q := by
  have hq := cnI_01 (S 0 31) x z
  refine vg_cut (fun m pc => (m == 184 && pc == 35)) (fun m => m == 184) 40 _ _ _ _ _ _ ?_
  repeat' first | (with_reducible refine vT ?_ ?_; · omega) | (with_reducible refine vF ?_ ?_; · omega) | (with_reducible refine vI (fun _ => ?_) (fun _ => ?_)) | (simp (config := {maxSteps := 1000000}) (disch := (first | assumption | omega | (rw [hr_at]; assumption) | (rw [hr_at]; omega))) only [f_X8_paid, wg_0, wg_s, wK_none, wK_N, wK_C, wK_R, wQ_some, wQ_none, stR, mZ, mC, stI, ini, mL, gI, gA, sI, sA, bi, gF, pF, kF, kT, kL, c2, mT, mR, f4, tsw, lsw, tgt, inR, Nat.reduceLT, Nat.reduceLeDiff, Nat.reduceEqDiff, Nat.reduceAdd, Nat.reduceSub, ↓reduceIte, Bool.false_eq_true, List.map_cons, List.map_nil, List.length_cons, List.length_nil, List.replicate, List.cons_append, List.nil_append, List.getElem?_cons_zero, List.getElem?_cons_succ, List.set, List.take_succ_cons, List.take_zero, List.drop_succ_cons, List.drop_zero, List.reverse_cons, List.reverse_nil, Int.reduceLE, Int.reduceLT, Int.reduceNeg, Int.reduceToNat, true_and, and_true, and_self, beq_iff_eq, Bool.and_eq_true, Bool.or_eq_true, or_false, false_or, or_true, true_or, and_false, false_and, hu_hr, hr_hr, hr_at, hr_nc, not_false_eq_true, Int.reduceEq, Int.pow_zero, Int.reducePow, Int.reduceMul, Int.reduceAdd, Int.reduceDiv, Int.reduceMod, Int.zero_add, Int.add_zero, Int.mul_one, Int.cast_ofNat_Int, m_counts, hF, hP])
  · next e => rw [e, Int.add_zero] at h; exact h
  · rw [show cnI (S 0 31) x z = 1 by omega] at h; exact h
set_option maxHeartbeats 4000000 in
set_option maxRecDepth 100000 in
theorem pd_out {S : Hp} {b a z m : Int} {Q : Option MV → Hp → Prop} (hF : FlB (S 0 31)) (hW : DrW (S 0 31)) (hz : 0 ≤ z ∧ z < 600) (hm : 0 ≤ m ∧ m ≤ 3) (h : ∀ y1 y2 : Option MV, Wp 184 22 [some (.inr (0, 30)), some (.inl b), some (.inl (a + if 0 < m then m * przM (S 0 31) z else 0)), some (.inl (z + 1)), y1, y2] [] S Q) : Wp 184 35 [some (.inr (0, 30)), some (.inl b), some (.inl a), some (.inl z), some (.inl m), some (.inl 3)] [] S Q := by
  by_cases e : 0 < m
  · rw [if_pos e] at h
    refine vg_cut (fun m pc => (m == 184 && pc == 35) || (m == 184 && pc == 22)) (fun m => m == 184) 40 _ _ _ _ _ _ ?_
    repeat' first | (with_reducible refine vT ?_ ?_; · omega) | (with_reducible refine vF ?_ ?_; · omega) | (with_reducible refine vI (fun _ => ?_) (fun _ => ?_)) | (simp (config := {maxSteps := 1000000}) (disch := (first | assumption | omega | (rw [hr_at]; assumption) | (rw [hr_at]; omega))) only [f_X8_paid, wg_0, wg_s, wK_none, wK_N, wK_C, wK_R, wQ_some, wQ_none, stR, mZ, mC, stI, ini, mL, gI, gA, sI, sA, bi, gF, pF, kF, kT, kL, c2, mT, mR, f4, tsw, lsw, tgt, inR, Nat.reduceLT, Nat.reduceLeDiff, Nat.reduceEqDiff, Nat.reduceAdd, Nat.reduceSub, ↓reduceIte, Bool.false_eq_true, List.map_cons, List.map_nil, List.length_cons, List.length_nil, List.replicate, List.cons_append, List.nil_append, List.getElem?_cons_zero, List.getElem?_cons_succ, List.set, List.take_succ_cons, List.take_zero, List.drop_succ_cons, List.drop_zero, List.reverse_cons, List.reverse_nil, Int.reduceLE, Int.reduceLT, Int.reduceNeg, Int.reduceToNat, true_and, and_true, and_self, beq_iff_eq, Bool.and_eq_true, Bool.or_eq_true, or_false, false_or, or_true, true_or, and_false, false_and, hu_hr, hr_hr, hr_at, hr_nc, not_false_eq_true, Int.reduceEq, Int.pow_zero, Int.reducePow, Int.reduceMul, Int.reduceAdd, Int.reduceDiv, Int.reduceMod, Int.zero_add, Int.add_zero, Int.mul_one, Int.cast_ofNat_Int, m_prize, hF, hW])
    exact h _ _
  · rw [if_neg e, Int.add_zero] at h
    refine vg_cut (fun m pc => (m == 184 && pc == 35) || (m == 184 && pc == 22)) (fun m => m == 184) 40 _ _ _ _ _ _ ?_
    repeat' first | (with_reducible refine vT ?_ ?_; · omega) | (with_reducible refine vF ?_ ?_; · omega) | (with_reducible refine vI (fun _ => ?_) (fun _ => ?_)) | (simp (config := {maxSteps := 1000000}) (disch := (first | assumption | omega | (rw [hr_at]; assumption) | (rw [hr_at]; omega))) only [f_X8_paid, wg_0, wg_s, wK_none, wK_N, wK_C, wK_R, wQ_some, wQ_none, stR, mZ, mC, stI, ini, mL, gI, gA, sI, sA, bi, gF, pF, kF, kT, kL, c2, mT, mR, f4, tsw, lsw, tgt, inR, Nat.reduceLT, Nat.reduceLeDiff, Nat.reduceEqDiff, Nat.reduceAdd, Nat.reduceSub, ↓reduceIte, Bool.false_eq_true, List.map_cons, List.map_nil, List.length_cons, List.length_nil, List.replicate, List.cons_append, List.nil_append, List.getElem?_cons_zero, List.getElem?_cons_succ, List.set, List.take_succ_cons, List.take_zero, List.drop_succ_cons, List.drop_zero, List.reverse_cons, List.reverse_nil, Int.reduceLE, Int.reduceLT, Int.reduceNeg, Int.reduceToNat, true_and, and_true, and_self, beq_iff_eq, Bool.and_eq_true, Bool.or_eq_true, or_false, false_or, or_true, true_or, and_false, false_and, hu_hr, hr_hr, hr_at, hr_nc, not_false_eq_true, Int.reduceEq, Int.pow_zero, Int.reducePow, Int.reduceMul, Int.reduceAdd, Int.reduceDiv, Int.reduceMod, Int.zero_add, Int.add_zero, Int.mul_one, Int.cast_ofNat_Int, m_prize, hF, hW])
    exact h _ _
set_option maxHeartbeats 4000000 in
set_option maxRecDepth 100000 in
theorem pd_head {S : Hp} {b a z : Int} {y1 y2 : Option MV} {Q : Option MV → Hp → Prop} (hz : 0 ≤ z ∧ z < 600) (h : Wp 184 35 [some (.inr (0, 30)), some (.inl b), some (.inl a), some (.inl z), some (.inl 0), some (.inl 0)] [] S Q) : Wp 184 22 [some (.inr (0, 30)), some (.inl b), some (.inl a), some (.inl z), y1, y2] [] S Q := by
  refine vg_cut (fun m pc => (m == 184 && pc == 35) || (m == 184 && pc == 22)) (fun m => m == 184) 40 _ _ _ _ _ _ ?_
  repeat' first | (with_reducible refine vT ?_ ?_; · omega) | (with_reducible refine vF ?_ ?_; · omega) | (with_reducible refine vI (fun _ => ?_) (fun _ => ?_)) | (simp (config := {maxSteps := 1000000}) (disch := (first | assumption | omega | (rw [hr_at]; assumption) | (rw [hr_at]; omega))) only [f_X8_paid, wg_0, wg_s, wK_none, wK_N, wK_C, wK_R, wQ_some, wQ_none, stR, mZ, mC, stI, ini, mL, gI, gA, sI, sA, bi, gF, pF, kF, kT, kL, c2, mT, mR, f4, tsw, lsw, tgt, inR, Nat.reduceLT, Nat.reduceLeDiff, Nat.reduceEqDiff, Nat.reduceAdd, Nat.reduceSub, ↓reduceIte, Bool.false_eq_true, List.map_cons, List.map_nil, List.length_cons, List.length_nil, List.replicate, List.cons_append, List.nil_append, List.getElem?_cons_zero, List.getElem?_cons_succ, List.set, List.take_succ_cons, List.take_zero, List.drop_succ_cons, List.drop_zero, List.reverse_cons, List.reverse_nil, Int.reduceLE, Int.reduceLT, Int.reduceNeg, Int.reduceToNat, true_and, and_true, and_self, beq_iff_eq, Bool.and_eq_true, Bool.or_eq_true, or_false, false_or, or_true, true_or, and_false, false_and, hu_hr, hr_hr, hr_at, hr_nc, not_false_eq_true, Int.reduceEq, Int.pow_zero, Int.reducePow, Int.reduceMul, Int.reduceAdd, Int.reduceDiv, Int.reduceMod, Int.zero_add, Int.add_zero, Int.mul_one, Int.cast_ofNat_Int])
  exact h
set_option maxHeartbeats 4000000 in
set_option maxRecDepth 100000 in
theorem pd_end {S : Hp} {b a : Int} {y1 y2 : Option MV} {Q : Option MV → Hp → Prop} (h : Q (some (.inl a)) S) : Wp 184 22 [some (.inr (0, 30)), some (.inl b), some (.inl a), some (.inl 600), y1, y2] [] S Q := by
  refine vg_cut (fun m pc => (m == 184 && pc == 22)) (fun m => m == 184) 40 _ _ _ _ _ _ ?_
  repeat' first | (with_reducible refine vT ?_ ?_; · omega) | (with_reducible refine vF ?_ ?_; · omega) | (with_reducible refine vI (fun _ => ?_) (fun _ => ?_)) | (simp (config := {maxSteps := 1000000}) only [f_X8_paid, wg_0, wg_s, wK_none, wK_N, wK_C, wK_R, wQ_some, wQ_none, stR, mZ, mC, stI, ini, mL, gI, gA, sI, sA, bi, gF, pF, kF, kT, kL, c2, mT, mR, f4, tsw, lsw, tgt, inR, Nat.reduceLT, Nat.reduceLeDiff, Nat.reduceEqDiff, Nat.reduceAdd, Nat.reduceSub, ↓reduceIte, Bool.false_eq_true, List.map_cons, List.map_nil, List.length_cons, List.length_nil, List.replicate, List.cons_append, List.nil_append, List.getElem?_cons_zero, List.getElem?_cons_succ, List.set, List.take_succ_cons, List.take_zero, List.drop_succ_cons, List.drop_zero, List.reverse_cons, List.reverse_nil, Int.reduceLE, Int.reduceLT, Int.reduceNeg, Int.reduceToNat, true_and, and_true, and_self, beq_iff_eq, Bool.and_eq_true, Bool.or_eq_true, or_false, false_or, or_true, true_or, and_false, false_and, hu_hr, hr_hr, hr_at, hr_nc, not_false_eq_true, Int.reduceEq, Int.pow_zero, Int.reducePow, Int.reduceMul, Int.reduceAdd, Int.reduceDiv, Int.reduceMod, Int.zero_add, Int.add_zero, Int.mul_one, Int.cast_ofNat_Int])
  exact h
set_option maxHeartbeats 4000000 in
set_option maxRecDepth 100000 in
theorem pd_step {S : Hp} {b a z : Int} {y1 y2 : Option MV} {Q : Option MV → Hp → Prop} (hF : FlB (S 0 31)) (hW : DrW (S 0 31)) (hP : PdB (S 0 31)) (hz : 0 ≤ z ∧ z < 600) (h : ∀ y1 y2 : Option MV, Wp 184 22 [some (.inr (0, 30)), some (.inl b), some (.inl (a + pdV (S 0 31) z)), some (.inl (z + 1)), y1, y2] [] S Q) : Wp 184 22 [some (.inr (0, 30)), some (.inl b), some (.inl a), some (.inl z), y1, y2] [] S Q := by
  have q0 := cnI_01 (S 0 31) 0 z
  have q1 := cnI_01 (S 0 31) 1 z
  have q2 := cnI_01 (S 0 31) 2 z
  refine pd_head hz ?_
  refine pd_in hF hP hz (by omega) ?_
  refine pd_in (x := 1) hF hP hz (by omega) ?_
  refine pd_in (x := 2) hF hP hz (by omega) ?_
  refine pd_out hF hW hz (by omega) ?_
  unfold pdV at h
  rw [Int.zero_add]
  exact h
set_option maxHeartbeats 4000000 in
set_option maxRecDepth 100000 in
theorem pd_loop {S : Hp} {b : Int} {Q : Option MV → Hp → Prop} (hF : FlB (S 0 31)) (hW : DrW (S 0 31)) (hP : PdB (S 0 31)) {N : Nat} (hN : N = 600) (h : Q (some (.inl (sm (fun k => pdV (S 0 31) (k : Int)) N))) S) : ∀ d j : Nat, j + d = N → ∀ y1 y2 : Option MV, Wp 184 22 [some (.inr (0, 30)), some (.inl b), some (.inl (sm (fun k => pdV (S 0 31) (k : Int)) j)), some (.inl (j : Int)), y1, y2] [] S Q := by
  intro d
  induction d with
  | zero =>
    intro j hj y1 y2
    obtain rfl : j = N := by omega
    have e : (j : Int) = 600 := by omega
    rw [e]
    exact pd_end h
  | succ d ih =>
    intro j hj y1 y2
    refine pd_step hF hW hP (by omega) (fun y1 y2 => ?_)
    have h1 := ih (j + 1) (by omega) y1 y2
    rw [Int.natCast_add] at h1
    exact h1
set_option maxHeartbeats 4000000 in
set_option maxRecDepth 100000 in
theorem m_paid {S : Hp} {b : Int} (hb : b = 0 ∨ b = 1) (hF : FlB (S 0 31)) (hW : DrW (S 0 31)) (hP : PdB (S 0 31)) (Q : Option MV → Hp → Prop) : Wc 184 [.inr (0, 30), .inl b] S Q = Q (some (.inl (if b = 0 then coS (S 0 31) - S 0 31 3 else pdC (S 0 31)))) S := by
  refine Wc_eq ?_ Q
  unfold Wc
  rcases hb with rfl | rfl
  · rw [if_pos rfl]
    unfold coS
    refine vg_sound (fun m pc => (m == 184 && pc == 22)) (fun m => m == 184) 40 _ _ _ _ _ _ ?_
    repeat' first | (with_reducible refine vT ?_ ?_; · omega) | (with_reducible refine vF ?_ ?_; · omega) | (with_reducible refine vI (fun _ => ?_) (fun _ => ?_)) | (simp (config := {maxSteps := 1000000}) (disch := (first | assumption | omega | (rw [hr_at]; assumption) | (rw [hr_at]; omega))) only [f_X8_paid, wg_0, wg_s, wK_none, wK_N, wK_C, wK_R, wQ_some, wQ_none, stR, mZ, mC, stI, ini, mL, gI, gA, sI, sA, bi, gF, pF, kF, kT, kL, c2, mT, mR, f4, tsw, lsw, tgt, inR, Nat.reduceLT, Nat.reduceLeDiff, Nat.reduceEqDiff, Nat.reduceAdd, Nat.reduceSub, ↓reduceIte, Bool.false_eq_true, List.map_cons, List.map_nil, List.length_cons, List.length_nil, List.replicate, List.cons_append, List.nil_append, List.getElem?_cons_zero, List.getElem?_cons_succ, List.set, List.take_succ_cons, List.take_zero, List.drop_succ_cons, List.drop_zero, List.reverse_cons, List.reverse_nil, Int.reduceLE, Int.reduceLT, Int.reduceNeg, Int.reduceToNat, true_and, and_true, and_self, beq_iff_eq, Bool.and_eq_true, Bool.or_eq_true, or_false, false_or, or_true, true_or, and_false, false_and, hu_hr, hr_hr, hr_at, hr_nc, not_false_eq_true, Int.reduceEq, Int.pow_zero, Int.reducePow, Int.reduceMul, Int.reduceAdd, Int.reduceDiv, Int.reduceMod, Int.zero_add, Int.add_zero, Int.mul_one, Int.cast_ofNat_Int, m_sumOf])
  · rw [if_neg (by decide)]
    refine vg_sound (fun m pc => (m == 184 && pc == 22)) (fun m => m == 184) 40 _ _ _ _ _ _ ?_
    repeat' first | (with_reducible refine vT ?_ ?_; · omega) | (with_reducible refine vF ?_ ?_; · omega) | (with_reducible refine vI (fun _ => ?_) (fun _ => ?_)) | (simp (config := {maxSteps := 1000000}) (disch := (first | assumption | omega | (rw [hr_at]; assumption) | (rw [hr_at]; omega))) only [f_X8_paid, wg_0, wg_s, wK_none, wK_N, wK_C, wK_R, wQ_some, wQ_none, stR, mZ, mC, stI, ini, mL, gI, gA, sI, sA, bi, gF, pF, kF, kT, kL, c2, mT, mR, f4, tsw, lsw, tgt, inR, Nat.reduceLT, Nat.reduceLeDiff, Nat.reduceEqDiff, Nat.reduceAdd, Nat.reduceSub, ↓reduceIte, Bool.false_eq_true, List.map_cons, List.map_nil, List.length_cons, List.length_nil, List.replicate, List.cons_append, List.nil_append, List.getElem?_cons_zero, List.getElem?_cons_succ, List.set, List.take_succ_cons, List.take_zero, List.drop_succ_cons, List.drop_zero, List.reverse_cons, List.reverse_nil, Int.reduceLE, Int.reduceLT, Int.reduceNeg, Int.reduceToNat, true_and, and_true, and_self, beq_iff_eq, Bool.and_eq_true, Bool.or_eq_true, or_false, false_or, or_true, true_or, and_false, false_and, hu_hr, hr_hr, hr_at, hr_nc, not_false_eq_true, Int.reduceEq, Int.pow_zero, Int.reducePow, Int.reduceMul, Int.reduceAdd, Int.reduceDiv, Int.reduceMod, Int.zero_add, Int.add_zero, Int.mul_one, Int.cast_ofNat_Int])
    obtain ⟨N, hN⟩ : ∃ N : Nat, N = 600 := ⟨_, rfl⟩
    have hs : pdC (S 0 31) = sm (fun k => pdV (S 0 31) (k : Int)) N := by rw [hN]; rfl
    rw [hs]
    exact pd_loop hF hW hP hN ⟨rfl, rfl⟩ N 0 (by omega) _ _
/- a rule tried -/
def rtM (M : Int → Int) (r : Int) (n : Nat) : Int → Int := pvM (up M 5 r) n
def pyS (M : Int → Int) : Int := M 20 + M 35 + M 50
def awS (M : Int → Int) : Int := M 21 + M 36 + M 51
set_option maxHeartbeats 4000000 in
set_option maxRecDepth 100000 in
theorem ir_step {S : Hp} {N : Nat} {r t a p q c z : Int} {Q : Option MV → Hp → Prop} (hT : TkP (S 0 31) N) (hz : 0 ≤ z ∧ z < t) (ht : 1 ≤ t ∧ t ≤ 99) (h : Wp 186 76 [some (.inr (0, 30)), some (.inl r), some (.inl t), some (.inl a), some (.inl p), some (.inl q), some (.inl c), some (.inl (z + 1))] [] (hr S 0 31 (tkM (S 0 31) N)) Q) : Wp 186 76 [some (.inr (0, 30)), some (.inl r), some (.inl t), some (.inl a), some (.inl p), some (.inl q), some (.inl c), some (.inl z)] [] S Q := by
  have r1 := fun Q => m_tickNow (S := S) hT Q
  refine vg_cut (fun m pc => (m == 186 && pc == 76)) (fun m => m == 186) 40 _ _ _ _ _ _ ?_
  repeat' first | (with_reducible refine vT ?_ ?_; · omega) | (with_reducible refine vF ?_ ?_; · omega) | (with_reducible refine vI (fun _ => ?_) (fun _ => ?_)) | (simp (config := {maxSteps := 1000000}) (disch := (first | assumption | omega | (rw [hr_at]; assumption) | (rw [hr_at]; omega))) only [f_X8_ifRule, wg_0, wg_s, wK_none, wK_N, wK_C, wK_R, wQ_some, wQ_none, stR, mZ, mC, stI, ini, mL, gI, gA, sI, sA, bi, gF, pF, kF, kT, kL, c2, mT, mR, f4, tsw, lsw, tgt, inR, Nat.reduceLT, Nat.reduceLeDiff, Nat.reduceEqDiff, Nat.reduceAdd, Nat.reduceSub, ↓reduceIte, Bool.false_eq_true, List.map_cons, List.map_nil, List.length_cons, List.length_nil, List.replicate, List.cons_append, List.nil_append, List.getElem?_cons_zero, List.getElem?_cons_succ, List.set, List.take_succ_cons, List.take_zero, List.drop_succ_cons, List.drop_zero, List.reverse_cons, List.reverse_nil, Int.reduceLE, Int.reduceLT, Int.reduceNeg, Int.reduceToNat, true_and, and_true, and_self, beq_iff_eq, Bool.and_eq_true, Bool.or_eq_true, or_false, false_or, or_true, true_or, and_false, false_and, hu_hr, hr_hr, hr_at, hr_nc, not_false_eq_true, Int.reduceEq, Int.pow_zero, Int.reducePow, Int.reduceMul, Int.reduceAdd, Int.reduceDiv, Int.reduceMod, Int.zero_add, Int.add_zero, Int.mul_one, Int.cast_ofNat_Int, r1])
  exact h
set_option maxHeartbeats 4000000 in
set_option maxRecDepth 100000 in
theorem ir_end {S : Hp} {r t a p q c : Int} {Q : Option MV → Hp → Prop} (hP : PdB (S 0 31)) (ha : 0 ≤ a ∧ a ≤ 3) (ht : 1 ≤ t ∧ t ≤ 99) (h : Q (some (.inl (if a = 0 then pyS (S 0 31) - p else if a = 1 then ptC (S 0 31) else if a = 2 then awS (S 0 31) - q else coS (S 0 31) - S 0 31 3 - c + 100000))) (hr S 0 31 (cpF (S 0 31) (S 0 33) 3833))) : Wp 186 76 [some (.inr (0, 30)), some (.inl r), some (.inl t), some (.inl a), some (.inl p), some (.inl q), some (.inl c), some (.inl t)] [] S Q := by
  unfold pyS awS coS at h
  have hc : a = 0 ∨ a = 1 ∨ a = 2 ∨ a = 3 := by omega
  rcases hc with rfl | rfl | rfl | rfl
  · rw [if_pos rfl] at h
    refine vg_cut (fun m pc => (m == 186 && pc == 76)) (fun m => m == 186) 60 _ _ _ _ _ _ ?_
    repeat' first | (with_reducible refine vT ?_ ?_; · omega) | (with_reducible refine vF ?_ ?_; · omega) | (with_reducible refine vI (fun _ => ?_) (fun _ => ?_)) | (simp (config := {maxSteps := 1000000}) (disch := (first | assumption | omega | (rw [hr_at]; assumption) | (rw [hr_at]; omega))) only [f_X8_ifRule, wg_0, wg_s, wK_none, wK_N, wK_C, wK_R, wQ_some, wQ_none, stR, mZ, mC, stI, ini, mL, gI, gA, sI, sA, bi, gF, pF, kF, kT, kL, c2, mT, mR, f4, tsw, lsw, tgt, inR, Nat.reduceLT, Nat.reduceLeDiff, Nat.reduceEqDiff, Nat.reduceAdd, Nat.reduceSub, ↓reduceIte, Bool.false_eq_true, List.map_cons, List.map_nil, List.length_cons, List.length_nil, List.replicate, List.cons_append, List.nil_append, List.getElem?_cons_zero, List.getElem?_cons_succ, List.set, List.take_succ_cons, List.take_zero, List.drop_succ_cons, List.drop_zero, List.reverse_cons, List.reverse_nil, Int.reduceLE, Int.reduceLT, Int.reduceNeg, Int.reduceToNat, true_and, and_true, and_self, beq_iff_eq, Bool.and_eq_true, Bool.or_eq_true, or_false, false_or, or_true, true_or, and_false, false_and, hu_hr, hr_hr, hr_at, hr_nc, not_false_eq_true, Int.reduceEq, Int.pow_zero, Int.reducePow, Int.reduceMul, Int.reduceAdd, Int.reduceDiv, Int.reduceMod, Int.zero_add, Int.add_zero, Int.mul_one, Int.cast_ofNat_Int, m_sumOf, m_takeBack])
    exact h
  · rw [if_neg (by decide), if_pos rfl] at h
    refine vg_cut (fun m pc => (m == 186 && pc == 76)) (fun m => m == 186) 60 _ _ _ _ _ _ ?_
    repeat' first | (with_reducible refine vT ?_ ?_; · omega) | (with_reducible refine vF ?_ ?_; · omega) | (with_reducible refine vI (fun _ => ?_) (fun _ => ?_)) | (simp (config := {maxSteps := 1000000}) (disch := (first | assumption | omega | (rw [hr_at]; assumption) | (rw [hr_at]; omega))) only [f_X8_ifRule, wg_0, wg_s, wK_none, wK_N, wK_C, wK_R, wQ_some, wQ_none, stR, mZ, mC, stI, ini, mL, gI, gA, sI, sA, bi, gF, pF, kF, kT, kL, c2, mT, mR, f4, tsw, lsw, tgt, inR, Nat.reduceLT, Nat.reduceLeDiff, Nat.reduceEqDiff, Nat.reduceAdd, Nat.reduceSub, ↓reduceIte, Bool.false_eq_true, List.map_cons, List.map_nil, List.length_cons, List.length_nil, List.replicate, List.cons_append, List.nil_append, List.getElem?_cons_zero, List.getElem?_cons_succ, List.set, List.take_succ_cons, List.take_zero, List.drop_succ_cons, List.drop_zero, List.reverse_cons, List.reverse_nil, Int.reduceLE, Int.reduceLT, Int.reduceNeg, Int.reduceToNat, true_and, and_true, and_self, beq_iff_eq, Bool.and_eq_true, Bool.or_eq_true, or_false, false_or, or_true, true_or, and_false, false_and, hu_hr, hr_hr, hr_at, hr_nc, not_false_eq_true, Int.reduceEq, Int.pow_zero, Int.reducePow, Int.reduceMul, Int.reduceAdd, Int.reduceDiv, Int.reduceMod, Int.zero_add, Int.add_zero, Int.mul_one, Int.cast_ofNat_Int, m_paidTwice, m_takeBack])
    exact h
  · rw [if_neg (by decide), if_neg (by decide), if_pos rfl] at h
    refine vg_cut (fun m pc => (m == 186 && pc == 76)) (fun m => m == 186) 60 _ _ _ _ _ _ ?_
    repeat' first | (with_reducible refine vT ?_ ?_; · omega) | (with_reducible refine vF ?_ ?_; · omega) | (with_reducible refine vI (fun _ => ?_) (fun _ => ?_)) | (simp (config := {maxSteps := 1000000}) (disch := (first | assumption | omega | (rw [hr_at]; assumption) | (rw [hr_at]; omega))) only [f_X8_ifRule, wg_0, wg_s, wK_none, wK_N, wK_C, wK_R, wQ_some, wQ_none, stR, mZ, mC, stI, ini, mL, gI, gA, sI, sA, bi, gF, pF, kF, kT, kL, c2, mT, mR, f4, tsw, lsw, tgt, inR, Nat.reduceLT, Nat.reduceLeDiff, Nat.reduceEqDiff, Nat.reduceAdd, Nat.reduceSub, ↓reduceIte, Bool.false_eq_true, List.map_cons, List.map_nil, List.length_cons, List.length_nil, List.replicate, List.cons_append, List.nil_append, List.getElem?_cons_zero, List.getElem?_cons_succ, List.set, List.take_succ_cons, List.take_zero, List.drop_succ_cons, List.drop_zero, List.reverse_cons, List.reverse_nil, Int.reduceLE, Int.reduceLT, Int.reduceNeg, Int.reduceToNat, true_and, and_true, and_self, beq_iff_eq, Bool.and_eq_true, Bool.or_eq_true, or_false, false_or, or_true, true_or, and_false, false_and, hu_hr, hr_hr, hr_at, hr_nc, not_false_eq_true, Int.reduceEq, Int.pow_zero, Int.reducePow, Int.reduceMul, Int.reduceAdd, Int.reduceDiv, Int.reduceMod, Int.zero_add, Int.add_zero, Int.mul_one, Int.cast_ofNat_Int, m_sumOf, m_takeBack])
    exact h
  · rw [if_neg (by decide), if_neg (by decide), if_neg (by decide)] at h
    refine vg_cut (fun m pc => (m == 186 && pc == 76)) (fun m => m == 186) 60 _ _ _ _ _ _ ?_
    repeat' first | (with_reducible refine vT ?_ ?_; · omega) | (with_reducible refine vF ?_ ?_; · omega) | (with_reducible refine vI (fun _ => ?_) (fun _ => ?_)) | (simp (config := {maxSteps := 1000000}) (disch := (first | assumption | omega | (rw [hr_at]; assumption) | (rw [hr_at]; omega))) only [f_X8_ifRule, wg_0, wg_s, wK_none, wK_N, wK_C, wK_R, wQ_some, wQ_none, stR, mZ, mC, stI, ini, mL, gI, gA, sI, sA, bi, gF, pF, kF, kT, kL, c2, mT, mR, f4, tsw, lsw, tgt, inR, Nat.reduceLT, Nat.reduceLeDiff, Nat.reduceEqDiff, Nat.reduceAdd, Nat.reduceSub, ↓reduceIte, Bool.false_eq_true, List.map_cons, List.map_nil, List.length_cons, List.length_nil, List.replicate, List.cons_append, List.nil_append, List.getElem?_cons_zero, List.getElem?_cons_succ, List.set, List.take_succ_cons, List.take_zero, List.drop_succ_cons, List.drop_zero, List.reverse_cons, List.reverse_nil, Int.reduceLE, Int.reduceLT, Int.reduceNeg, Int.reduceToNat, true_and, and_true, and_self, beq_iff_eq, Bool.and_eq_true, Bool.or_eq_true, or_false, false_or, or_true, true_or, and_false, false_and, hu_hr, hr_hr, hr_at, hr_nc, not_false_eq_true, Int.reduceEq, Int.pow_zero, Int.reducePow, Int.reduceMul, Int.reduceAdd, Int.reduceDiv, Int.reduceMod, Int.zero_add, Int.add_zero, Int.mul_one, Int.cast_ofNat_Int, m_sumOf, m_takeBack])
    exact h
def irV (M : Int → Int) (r t a : Int) : Int := if a = 0 then pyS (rtM M r t.toNat) - pyS M else if a = 1 then ptC (rtM M r t.toNat) else if a = 2 then awS (rtM M r t.toNat) - awS M else coS (rtM M r t.toNat) - rtM M r t.toNat 3 - (coS M - M 3) + 100000
set_option maxHeartbeats 4000000 in
set_option maxRecDepth 100000 in
theorem m_ifRule {S : Hp} {r t a : Int} (hr0 : tdR r) (ht : tdR t) (ha : tdR a) (hk : (0 ≤ r ∧ r ≤ 2) → ∀ k : Nat, k < 99 → TkP (rtM (S 0 31) r k) (nT (rtM (S 0 31) r k))) (hP : (0 ≤ r ∧ r ≤ 2) → ∀ k : Nat, k ≤ 99 → PdB (rtM (S 0 31) r k)) (Q : Option MV → Hp → Prop) : Wc 186 [.inr (0, 30), .inl r, .inl t, .inl a] S Q = Q (some (.inl (if (0 ≤ r ∧ r ≤ 2) ∧ (1 ≤ t ∧ t ≤ 99) ∧ 0 ≤ a ∧ a ≤ 3 then irV (S 0 31) r t a else -2))) (if (0 ≤ r ∧ r ≤ 2) ∧ (1 ≤ t ∧ t ≤ 99) ∧ 0 ≤ a ∧ a ≤ 3 then hr (hr S 0 33 (cpF (S 0 33) (S 0 31) 3833)) 0 31 (cpF (rtM (S 0 31) r t.toNat) (S 0 31) 3833) else S) := by
  refine Wc_eq ?_ Q
  unfold Wc
  unfold tdR at hr0 ht ha
  by_cases h : (0 ≤ r ∧ r ≤ 2) ∧ (1 ≤ t ∧ t ≤ 99) ∧ 0 ≤ a ∧ a ≤ 3
  · rw [if_pos h, if_pos h]
    obtain ⟨h1, h2, h3⟩ := h
    have go : Wp 186 76 [some (.inr (0, 30)), some (.inl r), some (.inl t), some (.inl a), some (.inl (pyS (S 0 31))), some (.inl (awS (S 0 31))), some (.inl (coS (S 0 31) - S 0 31 3)), some (.inl 0)] [] (hr (hr S 0 33 (cpF (S 0 33) (S 0 31) 3833)) 0 31 (up (S 0 31) 5 r)) (fun r' T => r' = some (.inl (irV (S 0 31) r t a)) ∧ T = hr (hr S 0 33 (cpF (S 0 33) (S 0 31) 3833)) 0 31 (cpF (rtM (S 0 31) r t.toNat) (S 0 31) 3833)) := by
      obtain ⟨N, hN⟩ : ∃ N : Nat, N = t.toNat := ⟨_, rfl⟩
      refine wp_for (fun j => [some (.inr (0, 30)), some (.inl r), some (.inl t), some (.inl a), some (.inl (pyS (S 0 31))), some (.inl (awS (S 0 31))), some (.inl (coS (S 0 31) - S 0 31 3)), some (.inl (j : Int))]) (fun j => hr (hr S 0 33 (cpF (S 0 33) (S 0 31) 3833)) 0 31 (rtM (S 0 31) r j)) N rfl rfl (fun j hj h => ?_) ?_
      · refine ir_step (N := nT (rtM (S 0 31) r j)) (by rw [hr_at]; exact hk h1 j (by omega)) (by omega) h2 ?_
        rw [Int.natCast_add] at h
        rw [hr_hr, hr_at]
        exact h
      · have e : (N : Int) = t := by omega
        rw [e]
        refine ir_end (by rw [hr_at]; exact hP h1 N (by omega)) h3 h2 ?_
        rw [hr_at, hr_hr, hr_nc (by decide), hr_at, cpF_abs]
        unfold irV
        rw [← hN]
        exact ⟨rfl, rfl⟩
    unfold pyS awS coS at go
    have r1 := fun Q => m_lay (S := S) Q
    refine vg_sound (fun m pc => (m == 186 && pc == 76)) (fun m => m == 186 || m == 109) 120 _ _ _ _ _ _ ?_
    repeat' first | (with_reducible refine vT ?_ ?_; · omega) | (with_reducible refine vF ?_ ?_; · omega) | (with_reducible refine vI (fun _ => ?_) (fun _ => ?_)) | (simp (config := {maxSteps := 1000000}) (disch := (first | assumption | omega | (rw [hr_at]; assumption) | (rw [hr_at]; omega))) only [f_X8_ifRule, f_X8_in, wg_0, wg_s, wK_none, wK_N, wK_C, wK_R, wQ_some, wQ_none, stR, mZ, mC, stI, ini, mL, gI, gA, sI, sA, bi, gF, pF, kF, kT, kL, c2, mT, mR, f4, tsw, lsw, tgt, inR, Nat.reduceLT, Nat.reduceLeDiff, Nat.reduceEqDiff, Nat.reduceAdd, Nat.reduceSub, ↓reduceIte, Bool.false_eq_true, List.map_cons, List.map_nil, List.length_cons, List.length_nil, List.replicate, List.cons_append, List.nil_append, List.getElem?_cons_zero, List.getElem?_cons_succ, List.set, List.take_succ_cons, List.take_zero, List.drop_succ_cons, List.drop_zero, List.reverse_cons, List.reverse_nil, Int.reduceLE, Int.reduceLT, Int.reduceNeg, Int.reduceToNat, true_and, and_true, and_self, beq_iff_eq, Bool.and_eq_true, Bool.or_eq_true, or_false, false_or, or_true, true_or, and_false, false_and, hu_hr, hr_hr, hr_at, hr_nc, not_false_eq_true, Int.reduceEq, Int.pow_zero, Int.reducePow, Int.reduceMul, Int.reduceAdd, Int.reduceDiv, Int.reduceMod, Int.zero_add, Int.add_zero, Int.mul_one, Int.cast_ofNat_Int, m_sumOf, r1])
    exact go
  · rw [if_neg h, if_neg h]
    refine vg_sound (fun m pc => (m == 186 && pc == 76)) (fun m => m == 186 || m == 109) 120 _ _ _ _ _ _ ?_
    repeat' first | (with_reducible refine vT ?_ ?_; · omega) | (with_reducible refine vF ?_ ?_; · omega) | (with_reducible refine vI (fun _ => ?_) (fun _ => ?_)) | (simp (config := {maxSteps := 1000000}) (disch := (first | assumption | omega | (rw [hr_at]; assumption) | (rw [hr_at]; omega))) only [f_X8_ifRule, f_X8_in, wg_0, wg_s, wK_none, wK_N, wK_C, wK_R, wQ_some, wQ_none, stR, mZ, mC, stI, ini, mL, gI, gA, sI, sA, bi, gF, pF, kF, kT, kL, c2, mT, mR, f4, tsw, lsw, tgt, inR, Nat.reduceLT, Nat.reduceLeDiff, Nat.reduceEqDiff, Nat.reduceAdd, Nat.reduceSub, ↓reduceIte, Bool.false_eq_true, List.map_cons, List.map_nil, List.length_cons, List.length_nil, List.replicate, List.cons_append, List.nil_append, List.getElem?_cons_zero, List.getElem?_cons_succ, List.set, List.take_succ_cons, List.take_zero, List.drop_succ_cons, List.drop_zero, List.reverse_cons, List.reverse_nil, Int.reduceLE, Int.reduceLT, Int.reduceNeg, Int.reduceToNat, true_and, and_true, and_self, beq_iff_eq, Bool.and_eq_true, Bool.or_eq_true, or_false, false_or, or_true, true_or, and_false, false_and, hu_hr, hr_hr, hr_at, hr_nc, not_false_eq_true, Int.reduceEq, Int.pow_zero, Int.reducePow, Int.reduceMul, Int.reduceAdd, Int.reduceDiv, Int.reduceMod, Int.zero_add, Int.add_zero, Int.mul_one, Int.cast_ofNat_Int])
    all_goals (first | trivial | exact ⟨rfl, rfl⟩)
