/-! THE CLASS: all orders are read, as the reference reads them -/
set_option maxHeartbeats 4000000 in
set_option maxRecDepth 100000 in
theorem c_order {S : Hp} {R A B C : Int → Int} {i o : Int} (hT : TxC (S 0 29) R) (hi : 0 ≤ i ∧ i < 20) (hl : R 6 < R 0) (ho : S 0 29 (R 6) = o) (hok : okO o) : ∃ B' C', (∀ Q : Option MV → Hp → Prop, Wc 46 [.inr (0, 25), .inl i] (hq S R A B C) Q = Q (some (.inl (if ckB (S 0 29) (R 0) (R 6 + 1) o then 0 else 1))) (hq S (up R 6 (prs (S 0 29) (R 0) (R 6 + 1) o).1) (up A i o) B' C')) ∧ (∀ k : Int, ¬ k = i → B' k = B k ∧ C' k = C k) ∧ (¬ ckB (S 0 29) (R 0) (R 6 + 1) o → (o = 99 → B' i = (prs (S 0 29) (R 0) (R 6 + 1) o).2.1 ∧ C' i = (prs (S 0 29) (R 0) (R 6 + 1) o).2.2) ∧ (¬ o = 99 → C' i = (prs (S 0 29) (R 0) (R 6 + 1) o).2.1)) := by
  have key : ∀ a b : Int, ((o = 115 ∧ a = 0 ∧ b = 599) ∨ (o = 100 ∧ a = 0 ∧ b = 5) ∨ (o = 116 ∧ a = 1 ∧ b = 99)) → prs (S 0 29) (R 0) (R 6 + 1) o = ((nuM (S 0 29) (R 0) (R 6 + 1) a b).2, (nuM (S 0 29) (R 0) (R 6 + 1) a b).1, 0) → ∃ B' C', (∀ Q : Option MV → Hp → Prop, Wc 46 [.inr (0, 25), .inl i] (hq S R A B C) Q = Q (some (.inl (if ckB (S 0 29) (R 0) (R 6 + 1) o then 0 else 1))) (hq S (up R 6 (prs (S 0 29) (R 0) (R 6 + 1) o).1) (up A i o) B' C')) ∧ (∀ k : Int, ¬ k = i → B' k = B k ∧ C' k = C k) ∧ (¬ ckB (S 0 29) (R 0) (R 6 + 1) o → (o = 99 → B' i = (prs (S 0 29) (R 0) (R 6 + 1) o).2.1 ∧ C' i = (prs (S 0 29) (R 0) (R 6 + 1) o).2.2) ∧ (¬ o = 99 → C' i = (prs (S 0 29) (R 0) (R 6 + 1) o).2.1)) := by
    intro a b hab ep
    have r := fun Q => c_one (S := S) (R := R) (A := A) (B := B) (C := C) (i := i) (o := o) (a := a) (b := b) hT hi hl ho hab Q
    unfold ckB
    rw [ep]
    generalize nuM (S 0 29) (R 0) (R 6 + 1) a b = N at *
    refine ⟨B, up C i (if nxP (S 0 29) (R 0) N.2 48 57 then -5 else N.1), fun Q => ?_, fun k hk => ⟨rfl, up_ne hk⟩, fun q => ⟨fun h => ?_, fun _ => ?_⟩⟩
    · rw [r Q]
      dsimp only
      congr 3
      by_cases c1 : N.1 = -5 ∨ nxP (S 0 29) (R 0) N.2 48 57
      · rw [if_pos c1, if_pos (c1.elim Or.inl (fun h => Or.inr (Or.inr h)))]
      · rw [if_neg c1, if_neg (fun q => c1 (q.elim Or.inl (fun h => h.elim (fun h => absurd h (by decide)) Or.inr)))]
    · omega
    · rw [up_eq rfl, if_neg (fun h => q (Or.inr (Or.inr h)))]
  rcases hok with h | h | h | h
  · exact key 0 599 (Or.inl ⟨h, rfl, rfl⟩) (by unfold prs; rw [if_pos h])
  · subst h
    obtain ⟨B', C', r1, r2, r3⟩ := c_win (S := S) (R := R) (A := A) (B := B) (C := C) hT hi hl ho
    exact ⟨B', C', r1, r2, fun q => ⟨fun _ => r3 q, fun h => absurd rfl h⟩⟩
  · exact key 0 5 (Or.inr (Or.inl ⟨h, rfl, rfl⟩)) (by unfold prs; rw [if_neg (by omega), if_pos h])
  · exact key 1 99 (Or.inr (Or.inr ⟨h, rfl, rfl⟩)) (by unfold prs; rw [if_neg (by omega), if_neg (by omega), if_pos h])
/- the places of the orders -/
def plc (X : Int → Int) (len p : Int) : Nat → Int
  | 0 => p
  | k + 1 => (prs X len (plc X len p k + 1) (X (plc X len p k))).1 + 1
set_option maxHeartbeats 4000000 in
set_option maxRecDepth 100000 in
theorem plc_s (X : Int → Int) (len p : Int) : ∀ k : Nat, plc X len p (k + 1) = plc X len ((prs X len (p + 1) (X p)).1 + 1) k
  | 0 => rfl
  | k + 1 => by
    have h := plc_s X len p k
    show (prs X len (plc X len p (k + 1) + 1) (X (plc X len p (k + 1)))).1 + 1 = _
    rw [h]
    rfl
/- an order in the class's rows -/
def OrA (X : Int → Int) (len q : Int) (A B C : Int → Int) (i : Int) : Prop := A i = X q ∧ (X q = 99 → B i = (prs X len (q + 1) (X q)).2.1 ∧ C i = (prs X len (q + 1) (X q)).2.2) ∧ (¬ X q = 99 → C i = (prs X len (q + 1) (X q)).2.1)
/- what the reference reads there -/
set_option maxHeartbeats 4000000 in
set_option maxRecDepth 100000 in
theorem roV_ok {X Rm : Int → Int} (h : Rm 5 < Rm 7) (ho : okO (X (Rm 5))) : roV X Rm = (if (prs X (Rm 7) (Rm 5 + 1) (X (Rm 5))).2.1 = -5 ∨ (prs X (Rm 7) (Rm 5 + 1) (X (Rm 5))).2.2 = -5 then 0 else 1) ∧ roR X Rm 5 = (prs X (Rm 7) (Rm 5 + 1) (X (Rm 5))).1 := by
  have e : ordO X Rm = X (Rm 5) := if_pos h
  refine ⟨?_, by rw [roR_5 (by rw [e]; exact ho), e]⟩
  unfold roV
  rw [e, if_pos ho]
  generalize prs X (Rm 7) (Rm 5 + 1) (X (Rm 5)) = N
  by_cases c1 : N.2.1 = -5
  · rw [if_pos c1, if_pos (Or.inl c1)]
  · rw [if_neg c1]
    by_cases c3 : N.2.2 = -5
    · rw [if_pos c3, if_pos (Or.inr c3)]
    · rw [if_neg c3, if_neg (fun q => q.elim c1 c3)]
set_option maxHeartbeats 4000000 in
set_option maxRecDepth 100000 in
theorem roV_no {X Rm : Int → Int} (h : ¬ (Rm 5 < Rm 7 ∧ okO (X (Rm 5)))) : roV X Rm = 0 ∧ roR X Rm 5 = Rm 5 := by
  have ho : ¬ okO (ordO X Rm) := by
    unfold ordO
    by_cases c : Rm 5 < Rm 7
    · rw [if_pos c]; exact fun q => h ⟨c, q⟩
    · rw [if_neg c]; unfold okO; omega
  exact ⟨by unfold roV; rw [if_neg ho], roR_5n ho⟩
set_option maxHeartbeats 4000000 in
set_option maxRecDepth 100000 in
theorem rd_exit {S : Hp} {R A B C : Int → Int} {z : Int} {Q : Option MV → Hp → Prop} (hz : z = 20) (h : Q (some (.inl (R 6))) (hq S R A B C)) : Wp 45 12 [some (.inr (0, 25)), some (.inl z)] [] (hq S R A B C) Q := by
  subst hz
  refine vg_cut (fun m pc => (m == 45 && pc == 12)) (fun m => m == 45) 40 _ _ _ _ _ _ ?_
  repeat' first | (with_reducible refine vT ?_ ?_; · omega) | (with_reducible refine vF ?_ ?_; · omega) | (with_reducible refine vI (fun _ => ?_) (fun _ => ?_)) | (simp (config := {maxSteps := 1000000}) (disch := (first | assumption | omega | (rw [hr_at]; assumption) | (rw [hr_at]; omega))) only [f_X4_read, wg_0, wg_s, wK_none, wK_N, wK_C, wK_R, wQ_some, wQ_none, stR, mZ, mC, stI, ini, mL, gI, gA, sI, sA, bi, gF, pF, kF, kT, kL, c2, mT, mR, f4, tsw, lsw, tgt, inR, Nat.reduceLT, Nat.reduceLeDiff, Nat.reduceEqDiff, Nat.reduceAdd, Nat.reduceSub, ↓reduceIte, Bool.false_eq_true, List.map_cons, List.map_nil, List.length_cons, List.length_nil, List.replicate, List.cons_append, List.nil_append, List.getElem?_cons_zero, List.getElem?_cons_succ, List.set, List.take_succ_cons, List.take_zero, List.drop_succ_cons, List.drop_zero, List.reverse_cons, List.reverse_nil, Int.reduceLE, Int.reduceLT, Int.reduceNeg, Int.reduceToNat, true_and, and_true, and_self, beq_iff_eq, Bool.and_eq_true, Bool.or_eq_true, or_false, false_or, or_true, true_or, and_false, false_and, hu_q25, hu_q26, hu_q27, hu_q28, q_25, q_26, q_27, q_28, q_nc, not_false_eq_true, Int.reduceEq, Int.pow_zero, Int.reducePow, Int.reduceMul, Int.reduceAdd, Int.reduceDiv, Int.reduceMod, Int.zero_add, Int.add_zero, Int.mul_one, Int.cast_ofNat_Int])
  exact h
set_option maxHeartbeats 4000000 in
set_option maxRecDepth 100000 in
theorem rd_fail {S : Hp} {R A B C R' A' B' C' : Int → Int} {z : Int} {Q : Option MV → Hp → Prop} (hz : 0 ≤ z ∧ z < 20) (r : ∀ Q : Option MV → Hp → Prop, Wc 46 [.inr (0, 25), .inl z] (hq S R A B C) Q = Q (some (.inl 0)) (hq S R' A' B' C')) (h : Q (some (.inl (R' 6))) (hq S R' A' B' C')) : Wp 45 12 [some (.inr (0, 25)), some (.inl z)] [] (hq S R A B C) Q := by
  refine vg_cut (fun m pc => (m == 45 && pc == 12)) (fun m => m == 45) 40 _ _ _ _ _ _ ?_
  repeat' first | (with_reducible refine vT ?_ ?_; · omega) | (with_reducible refine vF ?_ ?_; · omega) | (with_reducible refine vI (fun _ => ?_) (fun _ => ?_)) | (simp (config := {maxSteps := 1000000}) (disch := (first | assumption | omega | (rw [hr_at]; assumption) | (rw [hr_at]; omega))) only [f_X4_read, wg_0, wg_s, wK_none, wK_N, wK_C, wK_R, wQ_some, wQ_none, stR, mZ, mC, stI, ini, mL, gI, gA, sI, sA, bi, gF, pF, kF, kT, kL, c2, mT, mR, f4, tsw, lsw, tgt, inR, Nat.reduceLT, Nat.reduceLeDiff, Nat.reduceEqDiff, Nat.reduceAdd, Nat.reduceSub, ↓reduceIte, Bool.false_eq_true, List.map_cons, List.map_nil, List.length_cons, List.length_nil, List.replicate, List.cons_append, List.nil_append, List.getElem?_cons_zero, List.getElem?_cons_succ, List.set, List.take_succ_cons, List.take_zero, List.drop_succ_cons, List.drop_zero, List.reverse_cons, List.reverse_nil, Int.reduceLE, Int.reduceLT, Int.reduceNeg, Int.reduceToNat, true_and, and_true, and_self, beq_iff_eq, Bool.and_eq_true, Bool.or_eq_true, or_false, false_or, or_true, true_or, and_false, false_and, hu_q25, hu_q26, hu_q27, hu_q28, q_25, q_26, q_27, q_28, q_nc, not_false_eq_true, Int.reduceEq, Int.pow_zero, Int.reducePow, Int.reduceMul, Int.reduceAdd, Int.reduceDiv, Int.reduceMod, Int.zero_add, Int.add_zero, Int.mul_one, Int.cast_ofNat_Int, r])
  exact h
set_option maxHeartbeats 4000000 in
set_option maxRecDepth 100000 in
theorem rd_done {S : Hp} {R A B C R' A' B' C' : Int → Int} {z : Int} {Q : Option MV → Hp → Prop} (hz : 0 ≤ z ∧ z < 20) (hT : TxC (S 0 29) R') (r : ∀ Q : Option MV → Hp → Prop, Wc 46 [.inr (0, 25), .inl z] (hq S R A B C) Q = Q (some (.inl 1)) (hq S R' A' B' C')) (hp : ¬ R' 6 < R' 0) (h : Q (some (.inl (-5))) (hq S (up R' 1 (R' 1 + 1)) A' B' C')) : Wp 45 12 [some (.inr (0, 25)), some (.inl z)] [] (hq S R A B C) Q := by
  have h1 := hT.1
  have h2 := hT.2.1
  have e6 : up R' 1 (R' 1 + 1) 6 = R' 6 := up_ne (by decide)
  have e0 : up R' 1 (R' 1 + 1) 0 = R' 0 := up_ne (by decide)
  refine vg_cut (fun m pc => (m == 45 && pc == 12)) (fun m => m == 45) 40 _ _ _ _ _ _ ?_
  repeat' first | (with_reducible refine vT ?_ ?_; · omega) | (with_reducible refine vF ?_ ?_; · omega) | (with_reducible refine vI (fun _ => ?_) (fun _ => ?_)) | (simp (config := {maxSteps := 1000000}) (disch := (first | assumption | omega | (rw [hr_at]; assumption) | (rw [hr_at]; omega))) only [f_X4_read, wg_0, wg_s, wK_none, wK_N, wK_C, wK_R, wQ_some, wQ_none, stR, mZ, mC, stI, ini, mL, gI, gA, sI, sA, bi, gF, pF, kF, kT, kL, c2, mT, mR, f4, tsw, lsw, tgt, inR, Nat.reduceLT, Nat.reduceLeDiff, Nat.reduceEqDiff, Nat.reduceAdd, Nat.reduceSub, ↓reduceIte, Bool.false_eq_true, List.map_cons, List.map_nil, List.length_cons, List.length_nil, List.replicate, List.cons_append, List.nil_append, List.getElem?_cons_zero, List.getElem?_cons_succ, List.set, List.take_succ_cons, List.take_zero, List.drop_succ_cons, List.drop_zero, List.reverse_cons, List.reverse_nil, Int.reduceLE, Int.reduceLT, Int.reduceNeg, Int.reduceToNat, true_and, and_true, and_self, beq_iff_eq, Bool.and_eq_true, Bool.or_eq_true, or_false, false_or, or_true, true_or, and_false, false_and, hu_q25, hu_q26, hu_q27, hu_q28, q_25, q_26, q_27, q_28, q_nc, not_false_eq_true, Int.reduceEq, Int.pow_zero, Int.reducePow, Int.reduceMul, Int.reduceAdd, Int.reduceDiv, Int.reduceMod, Int.zero_add, Int.add_zero, Int.mul_one, Int.cast_ofNat_Int, r, e6, e0])
  exact h
set_option maxHeartbeats 4000000 in
set_option maxRecDepth 100000 in
theorem rd_bad {S : Hp} {R A B C R' A' B' C' : Int → Int} {z : Int} {Q : Option MV → Hp → Prop} (hz : 0 ≤ z ∧ z < 20) (hT : TxC (S 0 29) R') (r : ∀ Q : Option MV → Hp → Prop, Wc 46 [.inr (0, 25), .inl z] (hq S R A B C) Q = Q (some (.inl 1)) (hq S R' A' B' C')) (hp : R' 6 < R' 0) (hx : ¬ S 0 29 (R' 6) = 59) (h : Q (some (.inl (R' 6))) (hq S (up R' 1 (R' 1 + 1)) A' B' C')) : Wp 45 12 [some (.inr (0, 25)), some (.inl z)] [] (hq S R A B C) Q := by
  have h1 := hT.1
  have h2 := hT.2.1
  have hx1 := hT.2.2 (R' 6) (by omega) (by omega)
  have e6 : up R' 1 (R' 1 + 1) 6 = R' 6 := up_ne (by decide)
  have e0 : up R' 1 (R' 1 + 1) 0 = R' 0 := up_ne (by decide)
  refine vg_cut (fun m pc => (m == 45 && pc == 12)) (fun m => m == 45 || m == 49) 60 _ _ _ _ _ _ ?_
  repeat' first | (with_reducible refine vT ?_ ?_; · omega) | (with_reducible refine vF ?_ ?_; · omega) | (with_reducible refine vI (fun _ => ?_) (fun _ => ?_)) | (simp (config := {maxSteps := 1000000}) (disch := (first | assumption | omega | (rw [hr_at]; assumption) | (rw [hr_at]; omega))) only [f_X4_read, f_X4_readSign, wg_0, wg_s, wK_none, wK_N, wK_C, wK_R, wQ_some, wQ_none, stR, mZ, mC, stI, ini, mL, gI, gA, sI, sA, bi, gF, pF, kF, kT, kL, c2, mT, mR, f4, tsw, lsw, tgt, inR, Nat.reduceLT, Nat.reduceLeDiff, Nat.reduceEqDiff, Nat.reduceAdd, Nat.reduceSub, ↓reduceIte, Bool.false_eq_true, List.map_cons, List.map_nil, List.length_cons, List.length_nil, List.replicate, List.cons_append, List.nil_append, List.getElem?_cons_zero, List.getElem?_cons_succ, List.set, List.take_succ_cons, List.take_zero, List.drop_succ_cons, List.drop_zero, List.reverse_cons, List.reverse_nil, Int.reduceLE, Int.reduceLT, Int.reduceNeg, Int.reduceToNat, true_and, and_true, and_self, beq_iff_eq, Bool.and_eq_true, Bool.or_eq_true, or_false, false_or, or_true, true_or, and_false, false_and, hu_q25, hu_q26, hu_q27, hu_q28, q_25, q_26, q_27, q_28, q_nc, not_false_eq_true, Int.reduceEq, Int.pow_zero, Int.reducePow, Int.reduceMul, Int.reduceAdd, Int.reduceDiv, Int.reduceMod, Int.zero_add, Int.add_zero, Int.mul_one, Int.cast_ofNat_Int, r, e6, e0])
  exact h
set_option maxHeartbeats 4000000 in
set_option maxRecDepth 100000 in
theorem rd_more {S : Hp} {R A B C R' A' B' C' : Int → Int} {z : Int} {Q : Option MV → Hp → Prop} (hz : 0 ≤ z ∧ z < 20) (hT : TxC (S 0 29) R') (r : ∀ Q : Option MV → Hp → Prop, Wc 46 [.inr (0, 25), .inl z] (hq S R A B C) Q = Q (some (.inl 1)) (hq S R' A' B' C')) (hp : R' 6 < R' 0) (hx : S 0 29 (R' 6) = 59) (h : Wp 45 12 [some (.inr (0, 25)), some (.inl (z + 1))] [] (hq S (up (up R' 1 (R' 1 + 1)) 6 (R' 6 + 1)) A' B' C') Q) : Wp 45 12 [some (.inr (0, 25)), some (.inl z)] [] (hq S R A B C) Q := by
  have h1 := hT.1
  have h2 := hT.2.1
  have e6 : up R' 1 (R' 1 + 1) 6 = R' 6 := up_ne (by decide)
  have e0 : up R' 1 (R' 1 + 1) 0 = R' 0 := up_ne (by decide)
  refine vg_cut (fun m pc => (m == 45 && pc == 12)) (fun m => m == 45 || m == 49) 60 _ _ _ _ _ _ ?_
  repeat' first | (with_reducible refine vT ?_ ?_; · omega) | (with_reducible refine vF ?_ ?_; · omega) | (with_reducible refine vI (fun _ => ?_) (fun _ => ?_)) | (simp (config := {maxSteps := 1000000}) (disch := (first | assumption | omega | (rw [hr_at]; assumption) | (rw [hr_at]; omega))) only [f_X4_read, f_X4_readSign, wg_0, wg_s, wK_none, wK_N, wK_C, wK_R, wQ_some, wQ_none, stR, mZ, mC, stI, ini, mL, gI, gA, sI, sA, bi, gF, pF, kF, kT, kL, c2, mT, mR, f4, tsw, lsw, tgt, inR, Nat.reduceLT, Nat.reduceLeDiff, Nat.reduceEqDiff, Nat.reduceAdd, Nat.reduceSub, ↓reduceIte, Bool.false_eq_true, List.map_cons, List.map_nil, List.length_cons, List.length_nil, List.replicate, List.cons_append, List.nil_append, List.getElem?_cons_zero, List.getElem?_cons_succ, List.set, List.take_succ_cons, List.take_zero, List.drop_succ_cons, List.drop_zero, List.reverse_cons, List.reverse_nil, Int.reduceLE, Int.reduceLT, Int.reduceNeg, Int.reduceToNat, true_and, and_true, and_self, beq_iff_eq, Bool.and_eq_true, Bool.or_eq_true, or_false, false_or, or_true, true_or, and_false, false_and, hu_q25, hu_q26, hu_q27, hu_q28, q_25, q_26, q_27, q_28, q_nc, not_false_eq_true, Int.reduceEq, Int.pow_zero, Int.reducePow, Int.reduceMul, Int.reduceAdd, Int.reduceDiv, Int.reduceMod, Int.zero_add, Int.add_zero, Int.mul_one, Int.cast_ofNat_Int, r, e6, e0, hx])
  exact h
