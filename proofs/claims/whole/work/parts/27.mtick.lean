/-! THE REFERENCE's row: a tick -/
def Ap (M : Int → Int) (w : Int) : Prop := FlB M ∧ DrW M ∧ (0 ≤ M 5 ∧ M 5 ≤ 2) ∧ (0 ≤ M 2 ∧ M 2 < 255) ∧ (0 ≤ M (8 + 15 * w + 1) ∧ M (8 + 15 * w + 1) < 600) ∧ (0 ≤ M 7 ∧ M 7 < 2147483648) ∧ (0 ≤ M (8 + 15 * w + 9) ∧ M (8 + 15 * w + 9) ≤ 600) ∧ (0 ≤ M (8 + 15 * w + 10) ∧ M (8 + 15 * w + 10) < 2147483648) ∧ (0 ≤ M (8 + 15 * w) ∧ M (8 + 15 * w) ≤ 8)
def wsM (M : Int → Int) : Nat → (Int → Int)
  | 0 => M
  | k + 1 => waM (wsM M k) (k : Int)
set_option maxHeartbeats 4000000 in
set_option maxRecDepth 100000 in
theorem m_windowsAct {S : Hp} (hA : ∀ k : Nat, k < 3 → Ap (wsM (S 0 31) k) (k : Int)) (Q : Option MV → Hp → Prop) : Wc 140 [.inr (0, 30)] S Q = Q none (hr S 0 31 (wsM (S 0 31) 3)) := by
  refine Wc_eq ?_ Q
  unfold Wc
  refine vg_sound (fun m pc => (m == 140 && pc == 2)) (fun m => m == 140) 3 _ _ _ _ _ _ ?_
  repeat' first | (with_reducible refine vT ?_ ?_; · omega) | (with_reducible refine vF ?_ ?_; · omega) | (with_reducible refine vI (fun _ => ?_) (fun _ => ?_)) | (simp (config := {maxSteps := 1000000}) only [f_X8_windowsAct, wg_0, wg_s, wK_none, wK_N, wK_C, wK_R, wQ_some, wQ_none, stR, mZ, mC, stI, ini, mL, gI, gA, sI, sA, bi, gF, pF, kF, kT, kL, c2, mT, mR, f4, tsw, lsw, tgt, inR, Nat.reduceLT, Nat.reduceLeDiff, Nat.reduceEqDiff, Nat.reduceAdd, Nat.reduceSub, ↓reduceIte, Bool.false_eq_true, List.map_cons, List.map_nil, List.length_cons, List.length_nil, List.replicate, List.cons_append, List.nil_append, List.getElem?_cons_zero, List.getElem?_cons_succ, List.set, List.take_succ_cons, List.take_zero, List.drop_succ_cons, List.drop_zero, List.reverse_cons, List.reverse_nil, Int.reduceLE, Int.reduceLT, Int.reduceNeg, Int.reduceToNat, true_and, and_true, and_self, beq_iff_eq, Bool.and_eq_true, Bool.or_eq_true, or_false, false_or, or_true, true_or, and_false, false_and, hu_hr, hr_hr, hr_at, hr_nc, not_false_eq_true, Int.reduceEq, Int.pow_zero, Int.reducePow, Int.reduceMul, Int.reduceAdd, Int.reduceDiv, Int.reduceMod, Int.zero_add, Int.add_zero, Int.mul_one])
  obtain ⟨N, hN⟩ : ∃ N : Nat, N = 3 := ⟨_, rfl⟩
  rw [← hN]
  refine wp_for (fun j => [some (.inr (0, 30)), some (.inl (j : Int))]) (fun j => hr S 0 31 (wsM (S 0 31) j)) N rfl (hr_id S 0 31).symm (fun j hj h => ?_) ?_
  · obtain ⟨a1, a2, a3, a4, a5, a6, a7, a8, a9⟩ := hA j (by omega)
    refine act_step (by rw [hr_at]; exact a1) (by rw [hr_at]; exact a2) (by rw [hr_at]; exact a3) (by rw [hr_at]; exact a4) (by omega) (by rw [hr_at]; exact a5) (by rw [hr_at]; exact a6) (by rw [hr_at]; exact a7) (by rw [hr_at]; exact a8) (by rw [hr_at]; exact a9) ?_
    rw [Int.natCast_add] at h
    rw [hr_hr, hr_at]
    exact h
  · have e : (N : Int) = 3 := by omega
    rw [e]
    exact act_end ⟨rfl, rfl⟩
def twM (M : Int → Int) (w : Int) : Int → Int := if 0 < M (8 + 15 * w + 9) then moM M w 10 1 else M
set_option maxHeartbeats 4000000 in
set_option maxRecDepth 100000 in
theorem tw_step {S : Hp} {w : Int} {Q : Option MV → Hp → Prop} (hw : 0 ≤ w ∧ w < 3) (h9 : 0 ≤ S 0 31 (8 + 15 * w + 9) ∧ S 0 31 (8 + 15 * w + 9) ≤ 600)
    (h : Wp 144 24 [some (.inr (0, 30)), some (.inl (w + 1))] [] (hr S 0 31 (twM (S 0 31) w)) Q) : Wp 144 24 [some (.inr (0, 30)), some (.inl w)] [] S Q := by
  refine vg_cut (fun m pc => (m == 144 && pc == 24)) (fun m => m == 144 || m == 117) 80 _ _ _ _ _ _ ?_
  repeat' first | (with_reducible refine vT ?_ ?_; · omega) | (with_reducible refine vF ?_ ?_; · omega) | (with_reducible refine vI (fun _ => ?_) (fun _ => ?_)) | (simp (config := {maxSteps := 1000000}) (disch := (first | assumption | omega | (rw [hr_at]; assumption) | (rw [hr_at]; omega))) only [f_X8_tickNow, f_X8_at, wg_0, wg_s, wK_none, wK_N, wK_C, wK_R, wQ_some, wQ_none, stR, mZ, mC, stI, ini, mL, gI, gA, sI, sA, bi, gF, pF, kF, kT, kL, c2, mT, mR, f4, tsw, lsw, tgt, inR, Nat.reduceLT, Nat.reduceLeDiff, Nat.reduceEqDiff, Nat.reduceAdd, Nat.reduceSub, ↓reduceIte, Bool.false_eq_true, List.map_cons, List.map_nil, List.length_cons, List.length_nil, List.replicate, List.cons_append, List.nil_append, List.getElem?_cons_zero, List.getElem?_cons_succ, List.set, List.take_succ_cons, List.take_zero, List.drop_succ_cons, List.drop_zero, List.reverse_cons, List.reverse_nil, Int.reduceLE, Int.reduceLT, Int.reduceNeg, Int.reduceToNat, true_and, and_true, and_self, beq_iff_eq, Bool.and_eq_true, Bool.or_eq_true, or_false, false_or, or_true, true_or, and_false, false_and, hu_hr, hr_hr, hr_at, hr_nc, not_false_eq_true, Int.reduceEq, Int.pow_zero, Int.reducePow, Int.reduceMul, Int.reduceAdd, Int.reduceDiv, Int.reduceMod, Int.zero_add, Int.add_zero, Int.mul_one, m_more])
  all_goals unfold twM at h
  all_goals (first | rw [if_pos (by omega)] at h | (rw [if_neg (by omega)] at h; rw [hr_id] at h))
  all_goals exact h
set_option maxHeartbeats 4000000 in
set_option maxRecDepth 100000 in
theorem tw_end {S : Hp} {Q : Option MV → Hp → Prop} (h : Q none S) : Wp 144 24 [some (.inr (0, 30)), some (.inl 3)] [] S Q := by
  refine vg_cut (fun m pc => (m == 144 && pc == 24)) (fun m => m == 144) 40 _ _ _ _ _ _ ?_
  repeat' first | (with_reducible refine vT ?_ ?_; · omega) | (with_reducible refine vF ?_ ?_; · omega) | (with_reducible refine vI (fun _ => ?_) (fun _ => ?_)) | (simp (config := {maxSteps := 1000000}) only [f_X8_tickNow, wg_0, wg_s, wK_none, wK_N, wK_C, wK_R, wQ_some, wQ_none, stR, mZ, mC, stI, ini, mL, gI, gA, sI, sA, bi, gF, pF, kF, kT, kL, c2, mT, mR, f4, tsw, lsw, tgt, inR, Nat.reduceLT, Nat.reduceLeDiff, Nat.reduceEqDiff, Nat.reduceAdd, Nat.reduceSub, ↓reduceIte, Bool.false_eq_true, List.map_cons, List.map_nil, List.length_cons, List.length_nil, List.replicate, List.cons_append, List.nil_append, List.getElem?_cons_zero, List.getElem?_cons_succ, List.set, List.take_succ_cons, List.take_zero, List.drop_succ_cons, List.drop_zero, List.reverse_cons, List.reverse_nil, Int.reduceLE, Int.reduceLT, Int.reduceNeg, Int.reduceToNat, true_and, and_true, and_self, beq_iff_eq, Bool.and_eq_true, Bool.or_eq_true, or_false, false_or, or_true, true_or, and_false, false_and, hu_hr, hr_hr, hr_at, hr_nc, not_false_eq_true, Int.reduceEq, Int.pow_zero, Int.reducePow, Int.reduceMul, Int.reduceAdd, Int.reduceDiv, Int.reduceMod, Int.zero_add, Int.add_zero, Int.mul_one])
  exact h
def tnM (M : Int → Int) : Nat → (Int → Int)
  | 0 => M
  | k + 1 => twM (tnM M k) (k : Int)
set_option maxHeartbeats 4000000 in
set_option maxRecDepth 100000 in
theorem tw_ne {M : Int → Int} {w j : Int} (h : ¬ j = 8 + 15 * w + 10) : twM M w j = M j := by
  unfold twM moM
  split
  · exact up_ne h
  · rfl
set_option maxHeartbeats 4000000 in
set_option maxRecDepth 100000 in
theorem tn_ne {M : Int → Int} {j : Int} : ∀ k : Nat, (∀ i : Nat, i < k → ¬ j = 8 + 15 * (i : Int) + 10) → tnM M k j = M j := by
  intro k
  induction k with
  | zero => intro _; rfl
  | succ k ih =>
    intro h
    unfold tnM
    rw [tw_ne (h k (by omega))]
    exact ih (fun i hi => h i (by omega))
set_option maxHeartbeats 4000000 in
set_option maxRecDepth 100000 in
theorem tw_loop {S : Hp} {Q : Option MV → Hp → Prop} (h9 : ∀ w : Int, 0 ≤ w → w < 3 → 0 ≤ S 0 31 (8 + 15 * w + 9) ∧ S 0 31 (8 + 15 * w + 9) ≤ 600) (h : Q none (hr S 0 31 (tnM (S 0 31) 3))) : Wp 144 24 [some (.inr (0, 30)), some (.inl 0)] [] S Q := by
  obtain ⟨N, hN⟩ : ∃ N : Nat, N = 3 := ⟨_, rfl⟩
  rw [← hN] at h
  refine wp_for (fun j => [some (.inr (0, 30)), some (.inl (j : Int))]) (fun j => hr S 0 31 (tnM (S 0 31) j)) N rfl (hr_id S 0 31).symm (fun j hj h => ?_) ?_
  · refine tw_step (by omega) (by rw [hr_at, tn_ne j (fun i hi => by omega)]; exact h9 j (by omega) (by omega)) ?_
    rw [Int.natCast_add] at h
    rw [hr_hr, hr_at]
    exact h
  · have e : (N : Int) = 3 := by omega
    rw [e]
    exact tw_end h
set_option maxHeartbeats 4000000 in
set_option maxRecDepth 100000 in
theorem cs_ne {M : Int → Int} {j : Int} (h : ¬ j = 3) (h2 : j < 833 ∨ 2033 ≤ j) : csM M j = M j := by
  have hf := fdM_b M 600
  unfold csM
  split
  · rfl
  · rw [sn_ne h (by omega), up_ne (by omega)]
def tcM (M : Int → Int) : Int → Int := up (csM M) 0 (csM M 0 + 1)
def tkM (M : Int → Int) (N : Nat) : Int → Int := tnM (tcM (wsM (mmM M N) 3)) 3
/- what a tick asks of the row -/
def TkP (M : Int → Int) (N : Nat) : Prop :=
  (N ≤ 255 ∧ (∀ k : Nat, k < N → Gm (m1 M k) ∧ (0 ≤ m1 M k 0 ∧ m1 M k 0 < 2147483648) ∧ MsW (m1 M k) k ∧ (k : Int) < m1 M k 2) ∧ (0 ≤ m1 M N 0 ∧ m1 M N 0 < 2147483648) ∧ m1 M N 2 = N ∧ ∀ k : Nat, k < N → 0 ≤ m1 M N (65 + 3 * (k : Int)) ∧ m1 M N (65 + 3 * (k : Int)) < 2147483648) ∧
  (∀ k : Nat, k < 3 → Ap (wsM (mmM M N) k) (k : Int)) ∧
  (FlB (wsM (mmM M N) 3) ∧ PdB (wsM (mmM M N) 3) ∧ DrW (wsM (mmM M N) 3) ∧ DsB (wsM (mmM M N) 3)) ∧
  ∀ w : Int, 0 ≤ w → w < 3 → 0 ≤ wsM (mmM M N) 3 (8 + 15 * w + 9) ∧ wsM (mmM M N) 3 (8 + 15 * w + 9) ≤ 600
set_option maxHeartbeats 4000000 in
set_option maxRecDepth 100000 in
theorem m_tickNow {S : Hp} {N : Nat} (h : TkP (S 0 31) N) (Q : Option MV → Hp → Prop) : Wc 144 [.inr (0, 30)] S Q = Q none (hr S 0 31 (tkM (S 0 31) N)) := by
  refine Wc_eq ?_ Q
  unfold Wc
  obtain ⟨⟨a1, a2, a3, a4, a5⟩, b, ⟨c1, c2, c3, c4⟩, d⟩ := h
  have r1 := fun Q => m_messagesCome (S := S) a1 a2 a3 a4 a5 Q
  have r2 := fun Q => m_windowsAct (S := hr S 0 31 (mmM (S 0 31) N)) (by rw [hr_at]; exact b) Q
  have r3 := fun Q => m_clerkSettles (S := hr S 0 31 (wsM (mmM (S 0 31) N) 3)) (by rw [hr_at]; exact c1) (by rw [hr_at]; exact c2) (by rw [hr_at]; exact c3) (by rw [hr_at]; exact c4) Q
  rw [hr_at, hr_hr] at r2
  rw [hr_at, hr_hr] at r3
  refine vg_sound (fun m pc => (m == 144 && pc == 24)) (fun m => m == 144) 60 _ _ _ _ _ _ ?_
  repeat' first | (with_reducible refine vT ?_ ?_; · omega) | (with_reducible refine vF ?_ ?_; · omega) | (with_reducible refine vI (fun _ => ?_) (fun _ => ?_)) | (simp (config := {maxSteps := 1000000}) (disch := (first | assumption | omega | (rw [hr_at]; assumption) | (rw [hr_at]; omega))) only [f_X8_tickNow, wg_0, wg_s, wK_none, wK_N, wK_C, wK_R, wQ_some, wQ_none, stR, mZ, mC, stI, ini, mL, gI, gA, sI, sA, bi, gF, pF, kF, kT, kL, c2, mT, mR, f4, tsw, lsw, tgt, inR, Nat.reduceLT, Nat.reduceLeDiff, Nat.reduceEqDiff, Nat.reduceAdd, Nat.reduceSub, ↓reduceIte, Bool.false_eq_true, List.map_cons, List.map_nil, List.length_cons, List.length_nil, List.replicate, List.cons_append, List.nil_append, List.getElem?_cons_zero, List.getElem?_cons_succ, List.set, List.take_succ_cons, List.take_zero, List.drop_succ_cons, List.drop_zero, List.reverse_cons, List.reverse_nil, Int.reduceLE, Int.reduceLT, Int.reduceNeg, Int.reduceToNat, true_and, and_true, and_self, beq_iff_eq, Bool.and_eq_true, Bool.or_eq_true, or_false, false_or, or_true, true_or, and_false, false_and, hu_hr, hr_hr, hr_at, hr_nc, not_false_eq_true, Int.reduceEq, Int.pow_zero, Int.reducePow, Int.reduceMul, Int.reduceAdd, Int.reduceDiv, Int.reduceMod, Int.zero_add, Int.add_zero, Int.mul_one, r1, r2, r3])
  have e : hr S 0 31 (tkM (S 0 31) N) = hr (hr S 0 31 (tcM (wsM (mmM (S 0 31) N) 3))) 0 31 (tnM (tcM (wsM (mmM (S 0 31) N) 3)) 3) := by
    rw [hr_hr]
    rfl
  rw [e]
  refine tw_loop (S := hr S 0 31 (tcM (wsM (mmM (S 0 31) N) 3))) (fun w h1 h2 => ?_) ?_
  · rw [hr_at]
    unfold tcM
    rw [up_ne (by omega), cs_ne (by omega) (by omega)]
    exact d w h1 h2
  · rw [hr_at]
    exact ⟨rfl, rfl⟩
