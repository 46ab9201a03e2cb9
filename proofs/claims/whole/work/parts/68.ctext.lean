/-! THE CLASS: numbers are read from the text -/
def hq (S : Hp) (R A B C : Int → Int) : Hp := hr (hr (hr (hr S 0 25 R) 0 26 A) 0 27 B) 0 28 C
set_option maxHeartbeats 4000000 in
set_option maxRecDepth 100000 in
theorem q_25 {S : Hp} {R A B C : Int → Int} : hq S R A B C 0 25 = R := by unfold hq; rw [hr_nc (by decide), hr_nc (by decide), hr_nc (by decide), hr_at]
set_option maxHeartbeats 4000000 in
set_option maxRecDepth 100000 in
theorem q_26 {S : Hp} {R A B C : Int → Int} : hq S R A B C 0 26 = A := by unfold hq; rw [hr_nc (by decide), hr_nc (by decide), hr_at]
set_option maxHeartbeats 4000000 in
set_option maxRecDepth 100000 in
theorem q_27 {S : Hp} {R A B C : Int → Int} : hq S R A B C 0 27 = B := by unfold hq; rw [hr_nc (by decide), hr_at]
set_option maxHeartbeats 4000000 in
set_option maxRecDepth 100000 in
theorem q_28 {S : Hp} {R A B C : Int → Int} : hq S R A B C 0 28 = C := by unfold hq; rw [hr_at]
set_option maxHeartbeats 4000000 in
set_option maxRecDepth 100000 in
theorem q_nc {S : Hp} {R A B C : Int → Int} {k c : Nat} (h : c < 25 ∨ 28 < c) : hq S R A B C k c = S k c := by unfold hq; rw [hr_nc (by omega), hr_nc (by omega), hr_nc (by omega), hr_nc (by omega)]
set_option maxHeartbeats 4000000 in
set_option maxRecDepth 100000 in
theorem hu_q25 {S : Hp} {R A B C : Int → Int} {j v : Int} : hu (hq S R A B C) 0 25 j v = hq S (up R j v) A B C := by
  rw [hu_hr, q_25]
  unfold hq
  rw [hr_comm _ _ _ (show ¬ 28 = 25 by decide), hr_comm _ _ _ (show ¬ 27 = 25 by decide), hr_comm _ _ _ (show ¬ 26 = 25 by decide), hr_hr]
set_option maxHeartbeats 4000000 in
set_option maxRecDepth 100000 in
theorem hu_q26 {S : Hp} {R A B C : Int → Int} {j v : Int} : hu (hq S R A B C) 0 26 j v = hq S R (up A j v) B C := by
  rw [hu_hr, q_26]
  unfold hq
  rw [hr_comm _ _ _ (show ¬ 28 = 26 by decide), hr_comm _ _ _ (show ¬ 27 = 26 by decide), hr_hr]
set_option maxHeartbeats 4000000 in
set_option maxRecDepth 100000 in
theorem hu_q27 {S : Hp} {R A B C : Int → Int} {j v : Int} : hu (hq S R A B C) 0 27 j v = hq S R A (up B j v) C := by
  rw [hu_hr, q_27]
  unfold hq
  rw [hr_comm _ _ _ (show ¬ 28 = 27 by decide), hr_hr]
set_option maxHeartbeats 4000000 in
set_option maxRecDepth 100000 in
theorem hu_q28 {S : Hp} {R A B C : Int → Int} {j v : Int} : hu (hq S R A B C) 0 28 j v = hq S R A B (up C j v) := by
  rw [hu_hr, q_28]
  unfold hq
  rw [hr_hr]
set_option maxHeartbeats 4000000 in
set_option maxRecDepth 100000 in
theorem hq_id (S : Hp) : hq S (S 0 25) (S 0 26) (S 0 27) (S 0 28) = S := by
  unfold hq
  rw [hr_id]
  have e1 : hr S 0 26 (S 0 26) = S := hr_id S 0 26
  rw [e1]
  have e2 : hr S 0 27 (S 0 27) = S := hr_id S 0 27
  rw [e2]
  exact hr_id S 0 28
def TxC (X R : Int → Int) : Prop := (0 ≤ R 6 ∧ R 6 ≤ R 0) ∧ R 0 ≤ 60 ∧ ∀ i : Int, 0 ≤ i → i < 60 → 0 ≤ X i ∧ X i < 65536
def cnL (X : Int → Int) (len a b : Int) : Nat → Int → Int → Int × Int
  | 0, v, p => (v, p)
  | n + 1, v, p => if p < len then (if X p < 48 ∨ 57 < X p then (v, p) else if v = 0 then (-5, p) else if (if v = -5 then X p - 48 else v * 10 + (X p - 48)) < a ∨ b < (if v = -5 then X p - 48 else v * 10 + (X p - 48)) then (-5, p) else cnL X len a b n (if v = -5 then X p - 48 else v * 10 + (X p - 48)) (p + 1)) else (v, p)
set_option maxHeartbeats 4000000 in
set_option maxRecDepth 100000 in
theorem cn_stop {S : Hp} {R A B C : Int → Int} {a b v w : Int} {y1 y2 : Option MV} {Q : Option MV → Hp → Prop} (hT : TxC (S 0 29) R) (ha : 0 ≤ a ∧ a ≤ 1) (hb : 0 ≤ b ∧ b < 1000) (hv : -5 ≤ v ∧ v < 1000) (hc : (¬ R 6 < R 0 ∧ w = v) ∨ (R 6 < R 0 ∧ (S 0 29 (R 6) < 48 ∨ 57 < S 0 29 (R 6)) ∧ w = v) ∨ (R 6 < R 0 ∧ ¬ (S 0 29 (R 6) < 48 ∨ 57 < S 0 29 (R 6)) ∧ w = -5 ∧ (v = 0 ∨ (v = -5 ∧ (S 0 29 (R 6) - 48 < a ∨ b < S 0 29 (R 6) - 48)) ∨ (¬ v = -5 ∧ (v * 10 + (S 0 29 (R 6) - 48) < a ∨ b < v * 10 + (S 0 29 (R 6) - 48)))))) (h : Q (some (.inl w)) (hq S R A B C)) : Wp 50 3 [some (.inr (0, 25)), some (.inl a), some (.inl b), some (.inl v), y1, y2] [] (hq S R A B C) Q := by
  obtain ⟨h1, h2, h3⟩ := hT
  rcases hc with ⟨hc, rfl⟩ | ⟨hc, hd, rfl⟩ | ⟨hc, hd, rfl, he⟩
  · refine vg_cut (fun m pc => (m == 50 && pc == 3)) (fun m => m == 50) 60 _ _ _ _ _ _ ?_
    repeat' first | (with_reducible refine vT ?_ ?_; · omega) | (with_reducible refine vF ?_ ?_; · omega) | (with_reducible refine vI (fun _ => ?_) (fun _ => ?_)) | (simp (config := {maxSteps := 1000000}) (disch := (first | assumption | omega | (rw [hr_at]; assumption) | (rw [hr_at]; omega))) only [f_X4_readNumber, wg_0, wg_s, wK_none, wK_N, wK_C, wK_R, wQ_some, wQ_none, stR, mZ, mC, stI, ini, mL, gI, gA, sI, sA, bi, gF, pF, kF, kT, kL, c2, mT, mR, f4, tsw, lsw, tgt, inR, Nat.reduceLT, Nat.reduceLeDiff, Nat.reduceEqDiff, Nat.reduceAdd, Nat.reduceSub, ↓reduceIte, Bool.false_eq_true, List.map_cons, List.map_nil, List.length_cons, List.length_nil, List.replicate, List.cons_append, List.nil_append, List.getElem?_cons_zero, List.getElem?_cons_succ, List.set, List.take_succ_cons, List.take_zero, List.drop_succ_cons, List.drop_zero, List.reverse_cons, List.reverse_nil, Int.reduceLE, Int.reduceLT, Int.reduceNeg, Int.reduceToNat, true_and, and_true, and_self, beq_iff_eq, Bool.and_eq_true, Bool.or_eq_true, or_false, false_or, or_true, true_or, and_false, false_and, hu_q25, hu_q26, hu_q27, hu_q28, q_25, q_26, q_27, q_28, q_nc, not_false_eq_true, Int.reduceEq, Int.pow_zero, Int.reducePow, Int.reduceMul, Int.reduceAdd, Int.reduceDiv, Int.reduceMod, Int.zero_add, Int.add_zero, Int.mul_one, Int.cast_ofNat_Int])
    exact h
  · have hx := h3 (R 6) (by omega) (by omega)
    refine vg_cut (fun m pc => (m == 50 && pc == 3)) (fun m => m == 50) 60 _ _ _ _ _ _ ?_
    repeat' first | (with_reducible refine vT ?_ ?_; · omega) | (with_reducible refine vF ?_ ?_; · omega) | (with_reducible refine vI (fun _ => ?_) (fun _ => ?_)) | (simp (config := {maxSteps := 1000000}) (disch := (first | assumption | omega | (rw [hr_at]; assumption) | (rw [hr_at]; omega))) only [f_X4_readNumber, wg_0, wg_s, wK_none, wK_N, wK_C, wK_R, wQ_some, wQ_none, stR, mZ, mC, stI, ini, mL, gI, gA, sI, sA, bi, gF, pF, kF, kT, kL, c2, mT, mR, f4, tsw, lsw, tgt, inR, Nat.reduceLT, Nat.reduceLeDiff, Nat.reduceEqDiff, Nat.reduceAdd, Nat.reduceSub, ↓reduceIte, Bool.false_eq_true, List.map_cons, List.map_nil, List.length_cons, List.length_nil, List.replicate, List.cons_append, List.nil_append, List.getElem?_cons_zero, List.getElem?_cons_succ, List.set, List.take_succ_cons, List.take_zero, List.drop_succ_cons, List.drop_zero, List.reverse_cons, List.reverse_nil, Int.reduceLE, Int.reduceLT, Int.reduceNeg, Int.reduceToNat, true_and, and_true, and_self, beq_iff_eq, Bool.and_eq_true, Bool.or_eq_true, or_false, false_or, or_true, true_or, and_false, false_and, hu_q25, hu_q26, hu_q27, hu_q28, q_25, q_26, q_27, q_28, q_nc, not_false_eq_true, Int.reduceEq, Int.pow_zero, Int.reducePow, Int.reduceMul, Int.reduceAdd, Int.reduceDiv, Int.reduceMod, Int.zero_add, Int.add_zero, Int.mul_one, Int.cast_ofNat_Int])
    all_goals exact h
  · have hx := h3 (R 6) (by omega) (by omega)
    refine vg_cut (fun m pc => (m == 50 && pc == 3)) (fun m => m == 50) 60 _ _ _ _ _ _ ?_
    repeat' first | (with_reducible refine vT ?_ ?_; · omega) | (with_reducible refine vF ?_ ?_; · omega) | (with_reducible refine vI (fun _ => ?_) (fun _ => ?_)) | (simp (config := {maxSteps := 1000000}) (disch := (first | assumption | omega | (rw [hr_at]; assumption) | (rw [hr_at]; omega))) only [f_X4_readNumber, wg_0, wg_s, wK_none, wK_N, wK_C, wK_R, wQ_some, wQ_none, stR, mZ, mC, stI, ini, mL, gI, gA, sI, sA, bi, gF, pF, kF, kT, kL, c2, mT, mR, f4, tsw, lsw, tgt, inR, Nat.reduceLT, Nat.reduceLeDiff, Nat.reduceEqDiff, Nat.reduceAdd, Nat.reduceSub, ↓reduceIte, Bool.false_eq_true, List.map_cons, List.map_nil, List.length_cons, List.length_nil, List.replicate, List.cons_append, List.nil_append, List.getElem?_cons_zero, List.getElem?_cons_succ, List.set, List.take_succ_cons, List.take_zero, List.drop_succ_cons, List.drop_zero, List.reverse_cons, List.reverse_nil, Int.reduceLE, Int.reduceLT, Int.reduceNeg, Int.reduceToNat, true_and, and_true, and_self, beq_iff_eq, Bool.and_eq_true, Bool.or_eq_true, or_false, false_or, or_true, true_or, and_false, false_and, hu_q25, hu_q26, hu_q27, hu_q28, q_25, q_26, q_27, q_28, q_nc, not_false_eq_true, Int.reduceEq, Int.pow_zero, Int.reducePow, Int.reduceMul, Int.reduceAdd, Int.reduceDiv, Int.reduceMod, Int.zero_add, Int.add_zero, Int.mul_one, Int.cast_ofNat_Int])
    all_goals exact h
set_option maxHeartbeats 4000000 in
set_option maxRecDepth 100000 in
theorem cn_step {S : Hp} {R A B C : Int → Int} {a b v w : Int} {y1 y2 : Option MV} {Q : Option MV → Hp → Prop} (hT : TxC (S 0 29) R) (ha : 0 ≤ a ∧ a ≤ 1) (hb : 0 ≤ b ∧ b < 1000) (hv : -5 ≤ v ∧ v < 1000) (hc : R 6 < R 0 ∧ ¬ (S 0 29 (R 6) < 48 ∨ 57 < S 0 29 (R 6)) ∧ ¬ v = 0 ∧ ((v = -5 ∧ w = S 0 29 (R 6) - 48) ∨ (¬ v = -5 ∧ w = v * 10 + (S 0 29 (R 6) - 48))) ∧ a ≤ w ∧ w ≤ b) (h : ∀ y1 y2 : Option MV, Wp 50 3 [some (.inr (0, 25)), some (.inl a), some (.inl b), some (.inl w), y1, y2] [] (hq S (up R 6 (R 6 + 1)) A B C) Q) : Wp 50 3 [some (.inr (0, 25)), some (.inl a), some (.inl b), some (.inl v), y1, y2] [] (hq S R A B C) Q := by
  obtain ⟨h1, h2, h3⟩ := hT
  obtain ⟨hc, hd, he, hf, hg⟩ := hc
  have hx := h3 (R 6) (by omega) (by omega)
  rcases hf with ⟨rfl, rfl⟩ | ⟨hf, rfl⟩
  · refine vg_cut (fun m pc => (m == 50 && pc == 3)) (fun m => m == 50) 60 _ _ _ _ _ _ ?_
    repeat' first | (with_reducible refine vT ?_ ?_; · omega) | (with_reducible refine vF ?_ ?_; · omega) | (with_reducible refine vI (fun _ => ?_) (fun _ => ?_)) | (simp (config := {maxSteps := 1000000}) (disch := (first | assumption | omega | (rw [hr_at]; assumption) | (rw [hr_at]; omega))) only [f_X4_readNumber, wg_0, wg_s, wK_none, wK_N, wK_C, wK_R, wQ_some, wQ_none, stR, mZ, mC, stI, ini, mL, gI, gA, sI, sA, bi, gF, pF, kF, kT, kL, c2, mT, mR, f4, tsw, lsw, tgt, inR, Nat.reduceLT, Nat.reduceLeDiff, Nat.reduceEqDiff, Nat.reduceAdd, Nat.reduceSub, ↓reduceIte, Bool.false_eq_true, List.map_cons, List.map_nil, List.length_cons, List.length_nil, List.replicate, List.cons_append, List.nil_append, List.getElem?_cons_zero, List.getElem?_cons_succ, List.set, List.take_succ_cons, List.take_zero, List.drop_succ_cons, List.drop_zero, List.reverse_cons, List.reverse_nil, Int.reduceLE, Int.reduceLT, Int.reduceNeg, Int.reduceToNat, true_and, and_true, and_self, beq_iff_eq, Bool.and_eq_true, Bool.or_eq_true, or_false, false_or, or_true, true_or, and_false, false_and, hu_q25, hu_q26, hu_q27, hu_q28, q_25, q_26, q_27, q_28, q_nc, not_false_eq_true, Int.reduceEq, Int.pow_zero, Int.reducePow, Int.reduceMul, Int.reduceAdd, Int.reduceDiv, Int.reduceMod, Int.zero_add, Int.add_zero, Int.mul_one, Int.cast_ofNat_Int])
    all_goals exact h _ _
  · refine vg_cut (fun m pc => (m == 50 && pc == 3)) (fun m => m == 50) 60 _ _ _ _ _ _ ?_
    repeat' first | (with_reducible refine vT ?_ ?_; · omega) | (with_reducible refine vF ?_ ?_; · omega) | (with_reducible refine vI (fun _ => ?_) (fun _ => ?_)) | (simp (config := {maxSteps := 1000000}) (disch := (first | assumption | omega | (rw [hr_at]; assumption) | (rw [hr_at]; omega))) only [f_X4_readNumber, wg_0, wg_s, wK_none, wK_N, wK_C, wK_R, wQ_some, wQ_none, stR, mZ, mC, stI, ini, mL, gI, gA, sI, sA, bi, gF, pF, kF, kT, kL, c2, mT, mR, f4, tsw, lsw, tgt, inR, Nat.reduceLT, Nat.reduceLeDiff, Nat.reduceEqDiff, Nat.reduceAdd, Nat.reduceSub, ↓reduceIte, Bool.false_eq_true, List.map_cons, List.map_nil, List.length_cons, List.length_nil, List.replicate, List.cons_append, List.nil_append, List.getElem?_cons_zero, List.getElem?_cons_succ, List.set, List.take_succ_cons, List.take_zero, List.drop_succ_cons, List.drop_zero, List.reverse_cons, List.reverse_nil, Int.reduceLE, Int.reduceLT, Int.reduceNeg, Int.reduceToNat, true_and, and_true, and_self, beq_iff_eq, Bool.and_eq_true, Bool.or_eq_true, or_false, false_or, or_true, true_or, and_false, false_and, hu_q25, hu_q26, hu_q27, hu_q28, q_25, q_26, q_27, q_28, q_nc, not_false_eq_true, Int.reduceEq, Int.pow_zero, Int.reducePow, Int.reduceMul, Int.reduceAdd, Int.reduceDiv, Int.reduceMod, Int.zero_add, Int.add_zero, Int.mul_one, Int.cast_ofNat_Int])
    all_goals exact h _ _
set_option maxHeartbeats 4000000 in
set_option maxRecDepth 100000 in
theorem TxC_p {X R : Int → Int} {p : Int} (h : TxC X R) (hp : 0 ≤ p ∧ p ≤ R 0) : TxC X (up R 6 p) := by
  refine ⟨?_, ?_, h.2.2⟩
  · rw [up_eq rfl, up_ne (by decide)]; exact hp
  · rw [up_ne (by decide)]; exact h.2.1
set_option maxHeartbeats 4000000 in
set_option maxRecDepth 100000 in
theorem cn_loop {a b : Int} {Q : Option MV → Hp → Prop} (ha : 0 ≤ a ∧ a ≤ 1) (hb : 0 ≤ b ∧ b < 1000) : ∀ (n : Nat) (S : Hp) (R A B C : Int → Int) (v : Int) (y1 y2 : Option MV), TxC (S 0 29) R → 61 ≤ R 6 + n → (-5 ≤ v ∧ v < 1000) → Q (some (.inl (cnL (S 0 29) (R 0) a b n v (R 6)).1)) (hq S (up R 6 (cnL (S 0 29) (R 0) a b n v (R 6)).2) A B C) → Wp 50 3 [some (.inr (0, 25)), some (.inl a), some (.inl b), some (.inl v), y1, y2] [] (hq S R A B C) Q
  | 0, S, R, A, B, C, v, y1, y2, hT, hn, hv, h => by
    have := hT.1
    have := hT.2.1
    omega
  | n + 1, S, R, A, B, C, v, y1, y2, hT, hn, hv, h => by
    have h1 := hT.1
    have h2 := hT.2.1
    unfold cnL at h
    by_cases hc : R 6 < R 0
    · rw [if_pos hc] at h
      have hx := hT.2.2 (R 6) (by omega) (by omega)
      by_cases hd : S 0 29 (R 6) < 48 ∨ 57 < S 0 29 (R 6)
      · rw [if_pos hd] at h
        dsimp only at h
        rw [up_id] at h
        exact cn_stop hT ha hb hv (Or.inr (Or.inl ⟨hc, hd, rfl⟩)) h
      · rw [if_neg hd] at h
        by_cases h0 : v = 0
        · rw [if_pos h0] at h
          dsimp only at h
          rw [up_id] at h
          exact cn_stop hT ha hb hv (Or.inr (Or.inr ⟨hc, hd, rfl, Or.inl h0⟩)) h
        · rw [if_neg h0] at h
          obtain ⟨w, hw⟩ : ∃ w, w = (if v = -5 then S 0 29 (R 6) - 48 else v * 10 + (S 0 29 (R 6) - 48)) := ⟨_, rfl⟩
          rw [← hw] at h
          have hw2 : (v = -5 ∧ w = S 0 29 (R 6) - 48) ∨ (¬ v = -5 ∧ w = v * 10 + (S 0 29 (R 6) - 48)) := by
            by_cases h5 : v = -5
            · rw [if_pos h5] at hw; exact Or.inl ⟨h5, hw⟩
            · rw [if_neg h5] at hw; exact Or.inr ⟨h5, hw⟩
          by_cases hr0 : w < a ∨ b < w
          · rw [if_pos hr0] at h
            dsimp only at h
            rw [up_id] at h
            exact cn_stop hT ha hb hv (Or.inr (Or.inr ⟨hc, hd, rfl, by omega⟩)) h
          · rw [if_neg hr0] at h
            refine cn_step (w := w) hT ha hb hv ⟨hc, hd, h0, hw2, by omega, by omega⟩ (fun y1 y2 => ?_)
            refine cn_loop ha hb n S _ A B C w y1 y2 (TxC_p hT (by omega)) (by rw [up_eq rfl]; omega) (by omega) ?_
            rw [up_eq rfl, up_ne (by decide), up_up]
            exact h
    · rw [if_neg hc] at h
      dsimp only at h
      rw [up_id] at h
      exact cn_stop hT ha hb hv (Or.inl ⟨hc, rfl⟩) h
def cnM (X : Int → Int) (len p a b : Int) : Int × Int := cnL X len a b 61 (-5) p
set_option maxHeartbeats 4000000 in
set_option maxRecDepth 100000 in
theorem c_readNumber {S : Hp} {R A B C : Int → Int} {a b : Int} (hT : TxC (S 0 29) R) (ha : 0 ≤ a ∧ a ≤ 1) (hb : 0 ≤ b ∧ b < 1000) (Q : Option MV → Hp → Prop) : Wc 50 [.inr (0, 25), .inl a, .inl b] (hq S R A B C) Q = Q (some (.inl (cnM (S 0 29) (R 0) (R 6) a b).1)) (hq S (up R 6 (cnM (S 0 29) (R 0) (R 6) a b).2) A B C) := by
  refine Wc_eq ?_ Q
  unfold Wc
  refine vg_sound (fun m pc => (m == 50 && pc == 3)) (fun m => m == 50) 10 _ _ _ _ _ _ ?_
  repeat' first | (with_reducible refine vT ?_ ?_; · omega) | (with_reducible refine vF ?_ ?_; · omega) | (with_reducible refine vI (fun _ => ?_) (fun _ => ?_)) | (simp (config := {maxSteps := 1000000}) only [f_X4_readNumber, wg_0, wg_s, wK_none, wK_N, wK_C, wK_R, wQ_some, wQ_none, stR, mZ, mC, stI, ini, mL, gI, gA, sI, sA, bi, gF, pF, kF, kT, kL, c2, mT, mR, f4, tsw, lsw, tgt, inR, Nat.reduceLT, Nat.reduceLeDiff, Nat.reduceEqDiff, Nat.reduceAdd, Nat.reduceSub, ↓reduceIte, Bool.false_eq_true, List.map_cons, List.map_nil, List.length_cons, List.length_nil, List.replicate, List.cons_append, List.nil_append, List.getElem?_cons_zero, List.getElem?_cons_succ, List.set, List.take_succ_cons, List.take_zero, List.drop_succ_cons, List.drop_zero, List.reverse_cons, List.reverse_nil, Int.reduceLE, Int.reduceLT, Int.reduceNeg, Int.reduceToNat, true_and, and_true, and_self, beq_iff_eq, Bool.and_eq_true, Bool.or_eq_true, or_false, false_or, or_true, true_or, and_false, false_and, hu_q25, hu_q26, hu_q27, hu_q28, q_25, q_26, q_27, q_28, q_nc, not_false_eq_true, Int.reduceEq, Int.pow_zero, Int.reducePow, Int.reduceMul, Int.reduceAdd, Int.reduceDiv, Int.reduceMod, Int.zero_add, Int.add_zero, Int.mul_one, Int.cast_ofNat_Int])
  have h1 := hT.1
  exact cn_loop ha hb 61 S R A B C (-5) _ _ hT (by omega) (by omega) ⟨rfl, rfl⟩
