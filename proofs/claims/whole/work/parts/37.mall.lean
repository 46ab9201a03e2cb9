/-! THE REFERENCE: all orders -/
set_option maxHeartbeats 4000000 in
set_option maxRecDepth 100000 in
theorem prs_b {X : Int → Int} {len p o : Int} (hp : p ≤ len) : (p ≤ (prs X len p o).1 ∧ (prs X len p o).1 ≤ len) ∧ (-5 ≤ (prs X len p o).2.1 ∧ (prs X len p o).2.1 < 1000) ∧ -5 ≤ (prs X len p o).2.2 ∧ (prs X len p o).2.2 < 1000 := by
  have h1 := nuM_b (X := X) (a := 0) (b := 599) (by omega) (by omega) hp
  have h2 := nuM_b (X := X) (a := 0) (b := 5) (by omega) (by omega) hp
  have h3 := nuM_b (X := X) (a := 1) (b := 99) (by omega) (by omega) hp
  have h4 := nuM_b (X := X) (a := 0) (b := 2) (by omega) (by omega) hp
  unfold prs
  by_cases c1 : o = 115
  · rw [if_pos c1]; dsimp only; omega
  · rw [if_neg c1]
    by_cases c2 : o = 100
    · rw [if_pos c2]; dsimp only; omega
    · rw [if_neg c2]
      by_cases c3 : o = 116
      · rw [if_pos c3]; dsimp only; omega
      · rw [if_neg c3]
        unfold prc
        by_cases c4 : (nuM X len p 0 2).1 = -5
        · rw [if_pos c4]; dsimp only; omega
        · rw [if_neg c4]
          by_cases c5 : nxP X len (nuM X len p 0 2).2 58 58
          · rw [if_pos c5]
            have c6 := c5.1
            have h5 := nuM_b (X := X) (a := 0) (b := 599) (p := (nuM X len p 0 2).2 + 1) (len := len) (by omega) (by omega) (by omega)
            dsimp only
            omega
          · rw [if_neg c5]; dsimp only; omega
set_option maxHeartbeats 4000000 in
set_option maxRecDepth 100000 in
theorem ordO_lt {X R : Int → Int} (h : okO (ordO X R)) : R 5 < R 7 := by
  unfold ordO at h
  rcases Int.lt_or_le (R 5) (R 7) with q | q
  · exact q
  · rw [if_neg (by omega)] at h
    unfold okO at h
    omega
set_option maxHeartbeats 4000000 in
set_option maxRecDepth 100000 in
theorem roR_5 {X R : Int → Int} (h : okO (ordO X R)) : roR X R 5 = (prs X (R 7) (R 5 + 1) (ordO X R)).1 := by
  unfold roR
  rw [if_pos h]
  simp only [up_ap, Int.reduceEq, ↓reduceIte]
set_option maxHeartbeats 4000000 in
set_option maxRecDepth 100000 in
theorem roR_5n {X R : Int → Int} (h : ¬ okO (ordO X R)) : roR X R 5 = R 5 := by
  unfold roR
  rw [if_neg h]
  simp only [up_ap, Int.reduceEq, ↓reduceIte]
set_option maxHeartbeats 4000000 in
set_option maxRecDepth 100000 in
theorem roR_ne {X R : Int → Int} {i : Int} (h : ¬ i = 5 ∧ ¬ i = 9 ∧ ¬ i = 10 ∧ ¬ i = 11) : roR X R i = R i := by
  unfold roR
  split
  · rw [up_ne h.2.2.1, up_ne h.2.2.2, up_ne h.1, up_ne h.2.1]
  · rw [up_ne h.2.1]
set_option maxHeartbeats 4000000 in
set_option maxRecDepth 100000 in
theorem roR_b {X R : Int → Int} (hT : TxP X R) : R 5 ≤ roR X R 5 ∧ roR X R 5 ≤ R 7 := by
  by_cases h : okO (ordO X R)
  · have h1 := ordO_lt h
    have h2 := (prs_b (X := X) (o := ordO X R) (show R 5 + 1 ≤ R 7 by omega)).1
    rw [roR_5 h]
    omega
  · rw [roR_5n h]
    exact ⟨Int.le_refl _, hT.1.2⟩
set_option maxHeartbeats 4000000 in
set_option maxRecDepth 100000 in
theorem roR_lt {X R : Int → Int} (h : roV X R = 1) : R 5 < roR X R 5 := by
  have ho : okO (ordO X R) := by
    unfold roV at h
    by_cases q : okO (ordO X R)
    · exact q
    · rw [if_neg q] at h; omega
  have h1 := ordO_lt ho
  have h2 := (prs_b (X := X) (o := ordO X R) (show R 5 + 1 ≤ R 7 by omega)).1
  rw [roR_5 ho]
  omega
set_option maxHeartbeats 4000000 in
set_option maxRecDepth 100000 in
theorem roR_T {X R : Int → Int} (hT : TxP X R) : TxP X (roR X R) := by
  have h := roR_b hT
  refine ⟨?_, ?_, hT.2.2⟩
  · rw [roR_ne (i := 7) (by decide)]
    have := hT.1
    omega
  · rw [roR_ne (i := 7) (by decide)]; exact hT.2.1
set_option maxHeartbeats 4000000 in
set_option maxRecDepth 100000 in
theorem roV_01 (X R : Int → Int) : roV X R = 0 ∨ roV X R = 1 := by
  unfold roV
  repeat' split
  all_goals omega
def raL (X : Int → Int) : Nat → (Int → Int) → Int → Int × (Int → Int)
  | 0, R, m => (m, R)
  | n + 1, R, m => if roV X R = 1 then (if nxP X (R 7) (roR X R 5) 59 59 then raL X n (up (roR X R) 5 (roR X R 5 + 1)) (m + 1) else (if roR X R 5 < R 7 then -100 - roR X R 5 else m + 1, roR X R)) else (-100 - roR X R 5, roR X R)
set_option maxHeartbeats 4000000 in
set_option maxRecDepth 100000 in
theorem ra_exit {S : Hp} {m : Int} {Q : Option MV → Hp → Prop} (hT : TxP (S 0 35) (S 0 30)) (h : Q (some (.inl (if S 0 30 5 < S 0 30 7 then -100 - S 0 30 5 else m))) S) : Wp 168 9 [some (.inr (0, 30)), some (.inl m), some (.inl 0)] [] S Q := by
  have h1 := hT.1
  have h2 := hT.2.1
  by_cases hl : S 0 30 5 < S 0 30 7
  · rw [if_pos hl] at h
    refine vg_cut (fun m pc => (m == 168 && pc == 9)) (fun m => m == 168) 40 _ _ _ _ _ _ ?_
    repeat' first | (with_reducible refine vT ?_ ?_; · omega) | (with_reducible refine vF ?_ ?_; · omega) | (with_reducible refine vI (fun _ => ?_) (fun _ => ?_)) | (simp (config := {maxSteps := 1000000}) (disch := (first | assumption | omega | (rw [hr_at]; assumption) | (rw [hr_at]; omega))) only [f_X8_readAll, wg_0, wg_s, wK_none, wK_N, wK_C, wK_R, wQ_some, wQ_none, stR, mZ, mC, stI, ini, mL, gI, gA, sI, sA, bi, gF, pF, kF, kT, kL, c2, mT, mR, f4, tsw, lsw, tgt, inR, Nat.reduceLT, Nat.reduceLeDiff, Nat.reduceEqDiff, Nat.reduceAdd, Nat.reduceSub, ↓reduceIte, Bool.false_eq_true, List.map_cons, List.map_nil, List.length_cons, List.length_nil, List.replicate, List.cons_append, List.nil_append, List.getElem?_cons_zero, List.getElem?_cons_succ, List.set, List.take_succ_cons, List.take_zero, List.drop_succ_cons, List.drop_zero, List.reverse_cons, List.reverse_nil, Int.reduceLE, Int.reduceLT, Int.reduceNeg, Int.reduceToNat, true_and, and_true, and_self, beq_iff_eq, Bool.and_eq_true, Bool.or_eq_true, or_false, false_or, or_true, true_or, and_false, false_and, hu_hr, hr_hr, hr_at, hr_nc, not_false_eq_true, Int.reduceEq, Int.pow_zero, Int.reducePow, Int.reduceMul, Int.reduceAdd, Int.reduceDiv, Int.reduceMod, Int.zero_add, Int.add_zero, Int.mul_one, Int.cast_ofNat_Int])
    exact h
  · rw [if_neg hl] at h
    refine vg_cut (fun m pc => (m == 168 && pc == 9)) (fun m => m == 168) 40 _ _ _ _ _ _ ?_
    repeat' first | (with_reducible refine vT ?_ ?_; · omega) | (with_reducible refine vF ?_ ?_; · omega) | (with_reducible refine vI (fun _ => ?_) (fun _ => ?_)) | (simp (config := {maxSteps := 1000000}) (disch := (first | assumption | omega | (rw [hr_at]; assumption) | (rw [hr_at]; omega))) only [f_X8_readAll, wg_0, wg_s, wK_none, wK_N, wK_C, wK_R, wQ_some, wQ_none, stR, mZ, mC, stI, ini, mL, gI, gA, sI, sA, bi, gF, pF, kF, kT, kL, c2, mT, mR, f4, tsw, lsw, tgt, inR, Nat.reduceLT, Nat.reduceLeDiff, Nat.reduceEqDiff, Nat.reduceAdd, Nat.reduceSub, ↓reduceIte, Bool.false_eq_true, List.map_cons, List.map_nil, List.length_cons, List.length_nil, List.replicate, List.cons_append, List.nil_append, List.getElem?_cons_zero, List.getElem?_cons_succ, List.set, List.take_succ_cons, List.take_zero, List.drop_succ_cons, List.drop_zero, List.reverse_cons, List.reverse_nil, Int.reduceLE, Int.reduceLT, Int.reduceNeg, Int.reduceToNat, true_and, and_true, and_self, beq_iff_eq, Bool.and_eq_true, Bool.or_eq_true, or_false, false_or, or_true, true_or, and_false, false_and, hu_hr, hr_hr, hr_at, hr_nc, not_false_eq_true, Int.reduceEq, Int.pow_zero, Int.reducePow, Int.reduceMul, Int.reduceAdd, Int.reduceDiv, Int.reduceMod, Int.zero_add, Int.add_zero, Int.mul_one, Int.cast_ofNat_Int])
    exact h
set_option maxHeartbeats 4000000 in
set_option maxRecDepth 100000 in
theorem ra_loop {Q : Option MV → Hp → Prop} : ∀ (n : Nat) (S : Hp) (m : Int), TxP (S 0 35) (S 0 30) → 61 ≤ S 0 30 5 + n → (0 ≤ m ∧ m ≤ S 0 30 5) → Q (some (.inl (raL (S 0 35) n (S 0 30) m).1)) (hr S 0 30 (raL (S 0 35) n (S 0 30) m).2) → Wp 168 9 [some (.inr (0, 30)), some (.inl m), some (.inl 1)] [] S Q
  | 0, S, m, hT, hn, hm, h => by
    have := hT.1
    have := hT.2.1
    omega
  | n + 1, S, m, hT, hn, hm, h => by
    have r1 := fun Q => m_readOrder (S := S) hT Q
    have hT1 := roR_T hT
    have h1 := hT.1
    have h2 := hT.2.1
    have hb := roR_b hT
    have e7 : roR (S 0 35) (S 0 30) 7 = S 0 30 7 := roR_ne (by decide)
    unfold raL at h
    by_cases hv : roV (S 0 35) (S 0 30) = 1
    · rw [if_pos hv] at h
      rw [hv] at r1
      have hlt := roR_lt hv
      have r2 := fun Q => m_sign (S := hr S 0 30 (roR (S 0 35) (S 0 30))) (a := 59) (by rw [hr_nc (by decide), hr_at]; exact hT1) (by omega) Q
      rw [hr_nc (by decide), hr_at, hr_hr, e7] at r2
      by_cases hx : nxP (S 0 35) (S 0 30 7) (roR (S 0 35) (S 0 30) 5) 59 59
      · rw [if_pos hx] at h r2
        have hx1 := hx.1
        have ih := ra_loop (Q := Q) n (hr S 0 30 (up (roR (S 0 35) (S 0 30)) 5 (roR (S 0 35) (S 0 30) 5 + 1))) (m + 1) (by
          rw [hr_nc (by decide), hr_at]
          exact TxP_p hT1 (by rw [e7]; omega)) (by rw [hr_at, up_eq rfl]; omega) (by rw [hr_at, up_eq rfl]; omega) (by
          rw [hr_nc (by decide), hr_at, hr_hr]
          exact h)
        refine vg_cut (fun m pc => (m == 168 && pc == 9)) (fun m => m == 168) 40 _ _ _ _ _ _ ?_
        repeat' first | (with_reducible refine vT ?_ ?_; · omega) | (with_reducible refine vF ?_ ?_; · omega) | (with_reducible refine vI (fun _ => ?_) (fun _ => ?_)) | (simp (config := {maxSteps := 1000000}) (disch := (first | assumption | omega | (rw [hr_at]; assumption) | (rw [hr_at]; omega))) only [f_X8_readAll, wg_0, wg_s, wK_none, wK_N, wK_C, wK_R, wQ_some, wQ_none, stR, mZ, mC, stI, ini, mL, gI, gA, sI, sA, bi, gF, pF, kF, kT, kL, c2, mT, mR, f4, tsw, lsw, tgt, inR, Nat.reduceLT, Nat.reduceLeDiff, Nat.reduceEqDiff, Nat.reduceAdd, Nat.reduceSub, ↓reduceIte, Bool.false_eq_true, List.map_cons, List.map_nil, List.length_cons, List.length_nil, List.replicate, List.cons_append, List.nil_append, List.getElem?_cons_zero, List.getElem?_cons_succ, List.set, List.take_succ_cons, List.take_zero, List.drop_succ_cons, List.drop_zero, List.reverse_cons, List.reverse_nil, Int.reduceLE, Int.reduceLT, Int.reduceNeg, Int.reduceToNat, true_and, and_true, and_self, beq_iff_eq, Bool.and_eq_true, Bool.or_eq_true, or_false, false_or, or_true, true_or, and_false, false_and, hu_hr, hr_hr, hr_at, hr_nc, not_false_eq_true, Int.reduceEq, Int.pow_zero, Int.reducePow, Int.reduceMul, Int.reduceAdd, Int.reduceDiv, Int.reduceMod, Int.zero_add, Int.add_zero, Int.mul_one, Int.cast_ofNat_Int, r1, r2])
        exact ih
      · rw [if_neg hx] at h r2
        rw [Int.add_zero, up_id] at r2
        have ih := ra_exit (S := hr S 0 30 (roR (S 0 35) (S 0 30))) (m := m + 1) (Q := Q) (by rw [hr_nc (by decide), hr_at]; exact hT1) (by rw [hr_at, e7]; exact h)
        refine vg_cut (fun m pc => (m == 168 && pc == 9)) (fun m => m == 168) 40 _ _ _ _ _ _ ?_
        repeat' first | (with_reducible refine vT ?_ ?_; · omega) | (with_reducible refine vF ?_ ?_; · omega) | (with_reducible refine vI (fun _ => ?_) (fun _ => ?_)) | (simp (config := {maxSteps := 1000000}) (disch := (first | assumption | omega | (rw [hr_at]; assumption) | (rw [hr_at]; omega))) only [f_X8_readAll, wg_0, wg_s, wK_none, wK_N, wK_C, wK_R, wQ_some, wQ_none, stR, mZ, mC, stI, ini, mL, gI, gA, sI, sA, bi, gF, pF, kF, kT, kL, c2, mT, mR, f4, tsw, lsw, tgt, inR, Nat.reduceLT, Nat.reduceLeDiff, Nat.reduceEqDiff, Nat.reduceAdd, Nat.reduceSub, ↓reduceIte, Bool.false_eq_true, List.map_cons, List.map_nil, List.length_cons, List.length_nil, List.replicate, List.cons_append, List.nil_append, List.getElem?_cons_zero, List.getElem?_cons_succ, List.set, List.take_succ_cons, List.take_zero, List.drop_succ_cons, List.drop_zero, List.reverse_cons, List.reverse_nil, Int.reduceLE, Int.reduceLT, Int.reduceNeg, Int.reduceToNat, true_and, and_true, and_self, beq_iff_eq, Bool.and_eq_true, Bool.or_eq_true, or_false, false_or, or_true, true_or, and_false, false_and, hu_hr, hr_hr, hr_at, hr_nc, not_false_eq_true, Int.reduceEq, Int.pow_zero, Int.reducePow, Int.reduceMul, Int.reduceAdd, Int.reduceDiv, Int.reduceMod, Int.zero_add, Int.add_zero, Int.mul_one, Int.cast_ofNat_Int, r1, r2])
        exact ih
    · rw [if_neg hv] at h
      have hv0 : roV (S 0 35) (S 0 30) = 0 := by have := roV_01 (S 0 35) (S 0 30); omega
      rw [hv0] at r1
      refine vg_cut (fun m pc => (m == 168 && pc == 9)) (fun m => m == 168) 40 _ _ _ _ _ _ ?_
      repeat' first | (with_reducible refine vT ?_ ?_; · omega) | (with_reducible refine vF ?_ ?_; · omega) | (with_reducible refine vI (fun _ => ?_) (fun _ => ?_)) | (simp (config := {maxSteps := 1000000}) (disch := (first | assumption | omega | (rw [hr_at]; assumption) | (rw [hr_at]; omega))) only [f_X8_readAll, wg_0, wg_s, wK_none, wK_N, wK_C, wK_R, wQ_some, wQ_none, stR, mZ, mC, stI, ini, mL, gI, gA, sI, sA, bi, gF, pF, kF, kT, kL, c2, mT, mR, f4, tsw, lsw, tgt, inR, Nat.reduceLT, Nat.reduceLeDiff, Nat.reduceEqDiff, Nat.reduceAdd, Nat.reduceSub, ↓reduceIte, Bool.false_eq_true, List.map_cons, List.map_nil, List.length_cons, List.length_nil, List.replicate, List.cons_append, List.nil_append, List.getElem?_cons_zero, List.getElem?_cons_succ, List.set, List.take_succ_cons, List.take_zero, List.drop_succ_cons, List.drop_zero, List.reverse_cons, List.reverse_nil, Int.reduceLE, Int.reduceLT, Int.reduceNeg, Int.reduceToNat, true_and, and_true, and_self, beq_iff_eq, Bool.and_eq_true, Bool.or_eq_true, or_false, false_or, or_true, true_or, and_false, false_and, hu_hr, hr_hr, hr_at, hr_nc, not_false_eq_true, Int.reduceEq, Int.pow_zero, Int.reducePow, Int.reduceMul, Int.reduceAdd, Int.reduceDiv, Int.reduceMod, Int.zero_add, Int.add_zero, Int.mul_one, Int.cast_ofNat_Int, r1])
      exact h
def raM (X R : Int → Int) : Int × (Int → Int) := raL X 61 (up R 5 0) 0
/- a text, wherever the place stands -/
def TxQ (X R : Int → Int) : Prop := (0 ≤ R 7 ∧ R 7 ≤ 60) ∧ ∀ i : Int, 0 ≤ i → i < 60 → 0 ≤ X i ∧ X i < 65536
set_option maxHeartbeats 4000000 in
set_option maxRecDepth 100000 in
theorem TxP_0 {X R : Int → Int} (h : TxQ X R) : TxP X (up R 5 0) := by
  refine ⟨?_, ?_, h.2⟩
  · rw [up_eq rfl, up_ne (by decide)]
    exact ⟨Int.le_refl _, h.1.1⟩
  · rw [up_ne (by decide)]
    exact h.1.2
set_option maxHeartbeats 4000000 in
set_option maxRecDepth 100000 in
theorem m_readAll {S : Hp} (hT : TxQ (S 0 35) (S 0 30)) (Q : Option MV → Hp → Prop) : Wc 168 [.inr (0, 30)] S Q = Q (some (.inl (raM (S 0 35) (S 0 30)).1)) (hr S 0 30 (raM (S 0 35) (S 0 30)).2) := by
  refine Wc_eq ?_ Q
  unfold Wc
  refine vg_sound (fun m pc => (m == 168 && pc == 9)) (fun m => m == 168) 10 _ _ _ _ _ _ ?_
  repeat' first | (with_reducible refine vT ?_ ?_; · omega) | (with_reducible refine vF ?_ ?_; · omega) | (with_reducible refine vI (fun _ => ?_) (fun _ => ?_)) | (simp (config := {maxSteps := 1000000}) only [f_X8_readAll, wg_0, wg_s, wK_none, wK_N, wK_C, wK_R, wQ_some, wQ_none, stR, mZ, mC, stI, ini, mL, gI, gA, sI, sA, bi, gF, pF, kF, kT, kL, c2, mT, mR, f4, tsw, lsw, tgt, inR, Nat.reduceLT, Nat.reduceLeDiff, Nat.reduceEqDiff, Nat.reduceAdd, Nat.reduceSub, ↓reduceIte, Bool.false_eq_true, List.map_cons, List.map_nil, List.length_cons, List.length_nil, List.replicate, List.cons_append, List.nil_append, List.getElem?_cons_zero, List.getElem?_cons_succ, List.set, List.take_succ_cons, List.take_zero, List.drop_succ_cons, List.drop_zero, List.reverse_cons, List.reverse_nil, Int.reduceLE, Int.reduceLT, Int.reduceNeg, Int.reduceToNat, true_and, and_true, and_self, beq_iff_eq, Bool.and_eq_true, Bool.or_eq_true, or_false, false_or, or_true, true_or, and_false, false_and, hu_hr, hr_hr, hr_at, hr_nc, not_false_eq_true, Int.reduceEq, Int.pow_zero, Int.reducePow, Int.reduceMul, Int.reduceAdd, Int.reduceDiv, Int.reduceMod, Int.zero_add, Int.add_zero, Int.mul_one, Int.cast_ofNat_Int])
  refine ra_loop 61 _ _ ?_ ?_ ?_ ?_
  · rw [hr_nc (by decide), hr_at]; exact TxP_0 hT
  · rw [hr_at, up_eq rfl]; omega
  · rw [hr_at, up_eq rfl]; omega
  · rw [hr_nc (by decide), hr_at, hr_hr]
    exact ⟨rfl, rfl⟩
set_option maxHeartbeats 4000000 in
set_option maxRecDepth 100000 in
theorem raL_b {X : Int → Int} : ∀ (n : Nat) (R : Int → Int) (m : Int), TxP X R → 61 ≤ R 5 + n → (0 ≤ m ∧ m ≤ R 5) → -160 ≤ (raL X n R m).1 ∧ (raL X n R m).1 ≤ 60 ∧ TxP X (raL X n R m).2 ∧ ((raL X n R m).1 < 0 → (raL X n R m).1 ≤ -100) ∧ (∀ i : Int, ¬ i = 5 ∧ ¬ i = 9 ∧ ¬ i = 10 ∧ ¬ i = 11 → (raL X n R m).2 i = R i)
  | 0, R, m, hT, hn, hm => by
    have := hT.1
    have := hT.2.1
    omega
  | n + 1, R, m, hT, hn, hm => by
    have hT1 := roR_T hT
    have h1 := hT.1
    have h2 := hT.2.1
    have hb := roR_b hT
    have e7 : roR X R 7 = R 7 := roR_ne (by decide)
    unfold raL
    by_cases hv : roV X R = 1
    · rw [if_pos hv]
      have hlt := roR_lt hv
      by_cases hx : nxP X (R 7) (roR X R 5) 59 59
      · rw [if_pos hx]
        have hx1 := hx.1
        have ih := raL_b (X := X) n (up (roR X R) 5 (roR X R 5 + 1)) (m + 1) (TxP_p hT1 (by rw [e7]; omega)) (by rw [up_eq rfl]; omega) (by rw [up_eq rfl]; omega)
        refine ⟨ih.1, ih.2.1, ih.2.2.1, ih.2.2.2.1, fun i hi => ?_⟩
        rw [ih.2.2.2.2 i hi, up_ne hi.1, roR_ne hi]
      · rw [if_neg hx]
        refine ⟨?_, ?_, hT1, ?_, fun i hi => roR_ne hi⟩
        all_goals (dsimp only; split <;> omega)
    · rw [if_neg hv]
      refine ⟨?_, ?_, hT1, ?_, fun i hi => roR_ne hi⟩
      all_goals (dsimp only; omega)
set_option maxHeartbeats 4000000 in
set_option maxRecDepth 100000 in
theorem raM_b {X R : Int → Int} (hT : TxQ X R) : -160 ≤ (raM X R).1 ∧ (raM X R).1 ≤ 60 ∧ TxP X (raM X R).2 ∧ ((raM X R).1 < 0 → (raM X R).1 ≤ -100) ∧ (∀ i : Int, ¬ i = 5 ∧ ¬ i = 9 ∧ ¬ i = 10 ∧ ¬ i = 11 → (raM X R).2 i = R i) := by
  have h := raL_b (X := X) 61 (up R 5 0) 0 (TxP_0 hT) (by rw [up_eq rfl]; omega) (by rw [up_eq rfl]; omega)
  refine ⟨h.1, h.2.1, h.2.2.1, h.2.2.2.1, fun i hi => ?_⟩
  have e : (raM X R).2 i = (up R 5 0) i := h.2.2.2.2 i hi
  rw [e, up_ne hi.1]
set_option maxHeartbeats 4000000 in
set_option maxRecDepth 100000 in
theorem m_fault {S : Hp} (hT : TxQ (S 0 35) (S 0 30)) (Q : Option MV → Hp → Prop) : Wc 169 [.inr (0, 30)] S Q = Q (some (.inl (if (raM (S 0 35) (S 0 30)).1 < 0 then -100 - (raM (S 0 35) (S 0 30)).1 else -5))) (hr S 0 30 (raM (S 0 35) (S 0 30)).2) := by
  refine Wc_eq ?_ Q
  unfold Wc
  have hb := raM_b hT
  have r1 := fun Q => m_readAll (S := S) hT Q
  by_cases h : (raM (S 0 35) (S 0 30)).1 < 0
  · rw [if_pos h]
    refine vg_sound (fun _ _ => false) (fun m => m == 169) 40 _ _ _ _ _ _ ?_
    repeat' first | (with_reducible refine vT ?_ ?_; · omega) | (with_reducible refine vF ?_ ?_; · omega) | (with_reducible refine vI (fun _ => ?_) (fun _ => ?_)) | (simp (config := {maxSteps := 1000000}) (disch := (first | assumption | omega | (rw [hr_at]; assumption) | (rw [hr_at]; omega))) only [f_X8_fault, wg_0, wg_s, wK_none, wK_N, wK_C, wK_R, wQ_some, wQ_none, stR, mZ, mC, stI, ini, mL, gI, gA, sI, sA, bi, gF, pF, kF, kT, kL, c2, mT, mR, f4, tsw, lsw, tgt, inR, Nat.reduceLT, Nat.reduceLeDiff, Nat.reduceEqDiff, Nat.reduceAdd, Nat.reduceSub, ↓reduceIte, Bool.false_eq_true, List.map_cons, List.map_nil, List.length_cons, List.length_nil, List.replicate, List.cons_append, List.nil_append, List.getElem?_cons_zero, List.getElem?_cons_succ, List.set, List.take_succ_cons, List.take_zero, List.drop_succ_cons, List.drop_zero, List.reverse_cons, List.reverse_nil, Int.reduceLE, Int.reduceLT, Int.reduceNeg, Int.reduceToNat, true_and, and_true, and_self, beq_iff_eq, Bool.and_eq_true, Bool.or_eq_true, or_false, false_or, or_true, true_or, and_false, false_and, hu_hr, hr_hr, hr_at, hr_nc, not_false_eq_true, Int.reduceEq, Int.pow_zero, Int.reducePow, Int.reduceMul, Int.reduceAdd, Int.reduceDiv, Int.reduceMod, Int.zero_add, Int.add_zero, Int.mul_one, Int.cast_ofNat_Int, r1])
  · rw [if_neg h]
    refine vg_sound (fun _ _ => false) (fun m => m == 169) 40 _ _ _ _ _ _ ?_
    repeat' first | (with_reducible refine vT ?_ ?_; · omega) | (with_reducible refine vF ?_ ?_; · omega) | (with_reducible refine vI (fun _ => ?_) (fun _ => ?_)) | (simp (config := {maxSteps := 1000000}) (disch := (first | assumption | omega | (rw [hr_at]; assumption) | (rw [hr_at]; omega))) only [f_X8_fault, wg_0, wg_s, wK_none, wK_N, wK_C, wK_R, wQ_some, wQ_none, stR, mZ, mC, stI, ini, mL, gI, gA, sI, sA, bi, gF, pF, kF, kT, kL, c2, mT, mR, f4, tsw, lsw, tgt, inR, Nat.reduceLT, Nat.reduceLeDiff, Nat.reduceEqDiff, Nat.reduceAdd, Nat.reduceSub, ↓reduceIte, Bool.false_eq_true, List.map_cons, List.map_nil, List.length_cons, List.length_nil, List.replicate, List.cons_append, List.nil_append, List.getElem?_cons_zero, List.getElem?_cons_succ, List.set, List.take_succ_cons, List.take_zero, List.drop_succ_cons, List.drop_zero, List.reverse_cons, List.reverse_nil, Int.reduceLE, Int.reduceLT, Int.reduceNeg, Int.reduceToNat, true_and, and_true, and_self, beq_iff_eq, Bool.and_eq_true, Bool.or_eq_true, or_false, false_or, or_true, true_or, and_false, false_and, hu_hr, hr_hr, hr_at, hr_nc, not_false_eq_true, Int.reduceEq, Int.pow_zero, Int.reducePow, Int.reduceMul, Int.reduceAdd, Int.reduceDiv, Int.reduceMod, Int.zero_add, Int.add_zero, Int.mul_one, Int.cast_ofNat_Int, r1])
def OpP (M : Int → Int) : Prop := FlB M ∧ DrW M ∧ (0 ≤ M 1 ∧ M 1 < 65537) ∧ (∀ w : Int, 0 ≤ w → w < 3 → 0 ≤ M (8 + 15 * w) ∧ M (8 + 15 * w) ≤ 8) ∧ (0 ≤ M 0 ∧ M 0 ≤ 9999) ∧ ∀ t : Int, 1 ≤ t → M 0 + t ≤ 9999 → ∀ k : Nat, (k : Int) < t → TkP (pvM M k) (nT (pvM M k))
def ordV (M R : Int → Int) : Int := if R 9 = 115 then slR M (R 10) else if R 9 = 100 then dwR M (R 10) else if R 9 = 116 then paR M (R 10) else cmR M (R 10) (R 11)
def ordM (M R : Int → Int) : Int → Int := if R 9 = 115 then slM M (R 10) else if R 9 = 100 then dwM M (R 10) else if R 9 = 116 then paM M (R 10) else cmM M (R 10) (R 11)
set_option maxHeartbeats 4000000 in
set_option maxRecDepth 100000 in
theorem m_orderNow {S : Hp} (hP : OpP (S 0 31)) (h9 : tdR (S 0 30 9)) (h10 : tdR (S 0 30 10)) (h11 : tdR (S 0 30 11)) (Q : Option MV → Hp → Prop) : Wc 170 [.inr (0, 30)] S Q = Q (some (.inl (ordV (S 0 31) (S 0 30)))) (hr S 0 31 (ordM (S 0 31) (S 0 30))) := by
  refine Wc_eq ?_ Q
  unfold Wc
  have r1 := fun Q => m_sellNow (S := S) (t := S 0 30 10) hP.1 hP.2.1 h10 Q
  have r2 := fun Q => m_drawNow (S := S) (d := S 0 30 10) hP.2.1 hP.2.2.1 h10 Q
  have r3 := fun Q => m_passNow (S := S) (t := S 0 30 10) hP.2.2.2.2.1 h10 (hP.2.2.2.2.2 _) Q
  have r4 := fun Q => m_comeNow (S := S) (w := S 0 30 10) (t := S 0 30 11) hP.2.2.2.1 h10 h11 Q
  unfold tdR at h9
  unfold ordV ordM
  by_cases q1 : S 0 30 9 = 115
  · rw [if_pos q1, if_pos q1]
    refine vg_sound (fun _ _ => false) (fun m => m == 170) 60 _ _ _ _ _ _ ?_
    repeat' first | (with_reducible refine vT ?_ ?_; · omega) | (with_reducible refine vF ?_ ?_; · omega) | (with_reducible refine vI (fun _ => ?_) (fun _ => ?_)) | (simp (config := {maxSteps := 1000000}) (disch := (first | assumption | omega | (rw [hr_at]; assumption) | (rw [hr_at]; omega))) only [f_X8_orderNow, wg_0, wg_s, wK_none, wK_N, wK_C, wK_R, wQ_some, wQ_none, stR, mZ, mC, stI, ini, mL, gI, gA, sI, sA, bi, gF, pF, kF, kT, kL, c2, mT, mR, f4, tsw, lsw, tgt, inR, Nat.reduceLT, Nat.reduceLeDiff, Nat.reduceEqDiff, Nat.reduceAdd, Nat.reduceSub, ↓reduceIte, Bool.false_eq_true, List.map_cons, List.map_nil, List.length_cons, List.length_nil, List.replicate, List.cons_append, List.nil_append, List.getElem?_cons_zero, List.getElem?_cons_succ, List.set, List.take_succ_cons, List.take_zero, List.drop_succ_cons, List.drop_zero, List.reverse_cons, List.reverse_nil, Int.reduceLE, Int.reduceLT, Int.reduceNeg, Int.reduceToNat, true_and, and_true, and_self, beq_iff_eq, Bool.and_eq_true, Bool.or_eq_true, or_false, false_or, or_true, true_or, and_false, false_and, hu_hr, hr_hr, hr_at, hr_nc, not_false_eq_true, Int.reduceEq, Int.pow_zero, Int.reducePow, Int.reduceMul, Int.reduceAdd, Int.reduceDiv, Int.reduceMod, Int.zero_add, Int.add_zero, Int.mul_one, Int.cast_ofNat_Int, r1])
  · rw [if_neg q1, if_neg q1]
    by_cases q2 : S 0 30 9 = 100
    · rw [if_pos q2, if_pos q2]
      refine vg_sound (fun _ _ => false) (fun m => m == 170) 60 _ _ _ _ _ _ ?_
      repeat' first | (with_reducible refine vT ?_ ?_; · omega) | (with_reducible refine vF ?_ ?_; · omega) | (with_reducible refine vI (fun _ => ?_) (fun _ => ?_)) | (simp (config := {maxSteps := 1000000}) (disch := (first | assumption | omega | (rw [hr_at]; assumption) | (rw [hr_at]; omega))) only [f_X8_orderNow, wg_0, wg_s, wK_none, wK_N, wK_C, wK_R, wQ_some, wQ_none, stR, mZ, mC, stI, ini, mL, gI, gA, sI, sA, bi, gF, pF, kF, kT, kL, c2, mT, mR, f4, tsw, lsw, tgt, inR, Nat.reduceLT, Nat.reduceLeDiff, Nat.reduceEqDiff, Nat.reduceAdd, Nat.reduceSub, ↓reduceIte, Bool.false_eq_true, List.map_cons, List.map_nil, List.length_cons, List.length_nil, List.replicate, List.cons_append, List.nil_append, List.getElem?_cons_zero, List.getElem?_cons_succ, List.set, List.take_succ_cons, List.take_zero, List.drop_succ_cons, List.drop_zero, List.reverse_cons, List.reverse_nil, Int.reduceLE, Int.reduceLT, Int.reduceNeg, Int.reduceToNat, true_and, and_true, and_self, beq_iff_eq, Bool.and_eq_true, Bool.or_eq_true, or_false, false_or, or_true, true_or, and_false, false_and, hu_hr, hr_hr, hr_at, hr_nc, not_false_eq_true, Int.reduceEq, Int.pow_zero, Int.reducePow, Int.reduceMul, Int.reduceAdd, Int.reduceDiv, Int.reduceMod, Int.zero_add, Int.add_zero, Int.mul_one, Int.cast_ofNat_Int, r2])
    · rw [if_neg q2, if_neg q2]
      by_cases q3 : S 0 30 9 = 116
      · rw [if_pos q3, if_pos q3]
        refine vg_sound (fun _ _ => false) (fun m => m == 170) 60 _ _ _ _ _ _ ?_
        repeat' first | (with_reducible refine vT ?_ ?_; · omega) | (with_reducible refine vF ?_ ?_; · omega) | (with_reducible refine vI (fun _ => ?_) (fun _ => ?_)) | (simp (config := {maxSteps := 1000000}) (disch := (first | assumption | omega | (rw [hr_at]; assumption) | (rw [hr_at]; omega))) only [f_X8_orderNow, wg_0, wg_s, wK_none, wK_N, wK_C, wK_R, wQ_some, wQ_none, stR, mZ, mC, stI, ini, mL, gI, gA, sI, sA, bi, gF, pF, kF, kT, kL, c2, mT, mR, f4, tsw, lsw, tgt, inR, Nat.reduceLT, Nat.reduceLeDiff, Nat.reduceEqDiff, Nat.reduceAdd, Nat.reduceSub, ↓reduceIte, Bool.false_eq_true, List.map_cons, List.map_nil, List.length_cons, List.length_nil, List.replicate, List.cons_append, List.nil_append, List.getElem?_cons_zero, List.getElem?_cons_succ, List.set, List.take_succ_cons, List.take_zero, List.drop_succ_cons, List.drop_zero, List.reverse_cons, List.reverse_nil, Int.reduceLE, Int.reduceLT, Int.reduceNeg, Int.reduceToNat, true_and, and_true, and_self, beq_iff_eq, Bool.and_eq_true, Bool.or_eq_true, or_false, false_or, or_true, true_or, and_false, false_and, hu_hr, hr_hr, hr_at, hr_nc, not_false_eq_true, Int.reduceEq, Int.pow_zero, Int.reducePow, Int.reduceMul, Int.reduceAdd, Int.reduceDiv, Int.reduceMod, Int.zero_add, Int.add_zero, Int.mul_one, Int.cast_ofNat_Int, r3])
      · rw [if_neg q3, if_neg q3]
        refine vg_sound (fun _ _ => false) (fun m => m == 170) 60 _ _ _ _ _ _ ?_
        repeat' first | (with_reducible refine vT ?_ ?_; · omega) | (with_reducible refine vF ?_ ?_; · omega) | (with_reducible refine vI (fun _ => ?_) (fun _ => ?_)) | (simp (config := {maxSteps := 1000000}) (disch := (first | assumption | omega | (rw [hr_at]; assumption) | (rw [hr_at]; omega))) only [f_X8_orderNow, wg_0, wg_s, wK_none, wK_N, wK_C, wK_R, wQ_some, wQ_none, stR, mZ, mC, stI, ini, mL, gI, gA, sI, sA, bi, gF, pF, kF, kT, kL, c2, mT, mR, f4, tsw, lsw, tgt, inR, Nat.reduceLT, Nat.reduceLeDiff, Nat.reduceEqDiff, Nat.reduceAdd, Nat.reduceSub, ↓reduceIte, Bool.false_eq_true, List.map_cons, List.map_nil, List.length_cons, List.length_nil, List.replicate, List.cons_append, List.nil_append, List.getElem?_cons_zero, List.getElem?_cons_succ, List.set, List.take_succ_cons, List.take_zero, List.drop_succ_cons, List.drop_zero, List.reverse_cons, List.reverse_nil, Int.reduceLE, Int.reduceLT, Int.reduceNeg, Int.reduceToNat, true_and, and_true, and_self, beq_iff_eq, Bool.and_eq_true, Bool.or_eq_true, or_false, false_or, or_true, true_or, and_false, false_and, hu_hr, hr_hr, hr_at, hr_nc, not_false_eq_true, Int.reduceEq, Int.pow_zero, Int.reducePow, Int.reduceMul, Int.reduceAdd, Int.reduceDiv, Int.reduceMod, Int.zero_add, Int.add_zero, Int.mul_one, Int.cast_ofNat_Int, r4])
def daP (X : Int → Int) : Nat → (Int → Int) → (Int → Int) → Int → Prop
  | 0, _, _, t => tdR t
  | n + 1, R, M, t => tdR t ∧ (0 ≤ t ∨ t = -5 → TxP X R ∧ OpP M ∧ daP X n (up (roR X R) 5 (roR X R 5 + 1)) (ordM M (roR X R)) (ordV M (roR X R)))
def daL (X : Int → Int) : Nat → (Int → Int) → (Int → Int) → Int → (Int → Int) × (Int → Int) × Int
  | 0, R, M, t => (R, M, t)
  | n + 1, R, M, t => if 0 ≤ t ∨ t = -5 then daL X n (up (roR X R) 5 (roR X R 5 + 1)) (ordM M (roR X R)) (ordV M (roR X R)) else (R, M, t)
set_option maxHeartbeats 4000000 in
set_option maxRecDepth 100000 in
theorem roR_tx {X R : Int → Int} (hT : TxP X R) : tdR (roR X R 9) ∧ (tdR (R 10) → tdR (roR X R 10)) ∧ (tdR (R 11) → tdR (roR X R 11)) := by
  have ho : 0 ≤ ordO X R ∧ ordO X R < 65536 := by
    unfold ordO
    have := hT.1
    have := hT.2.1
    split
    · exact hT.2.2 _ (by omega) (by omega)
    · omega
  unfold tdR roR
  by_cases h : okO (ordO X R)
  · rw [if_pos h]
    have h1 := ordO_lt h
    have h2 := prs_b (X := X) (o := ordO X R) (show R 5 + 1 ≤ R 7 by omega)
    simp only [up_ap, Int.reduceEq, ↓reduceIte]
    omega
  · rw [if_neg h]
    simp only [up_ap, Int.reduceEq, ↓reduceIte]
    omega
set_option maxHeartbeats 4000000 in
set_option maxRecDepth 100000 in
theorem da_exit {S : Hp} {m t z : Int} {Q : Option MV → Hp → Prop} (ht : tdR t) (hm : 0 ≤ m ∧ m < 1000) (hz : 0 ≤ z ∧ z ≤ m) (hk : 0 ≤ S 0 30 6 ∧ S 0 30 6 ≤ 4) (he : z = m ∨ (t < 0 ∧ ¬ t = -5)) (h : Q (some (.inl (if t < 0 ∧ ¬ t = -5 then t else m))) (setS S (if t < 0 ∧ ¬ t = -5 then t else m))) : Wp 171 24 [some (.inr (0, 30)), some (.inl m), some (.inl t), some (.inl z)] [] S Q := by
  unfold tdR at ht
  by_cases hc : t < 0 ∧ ¬ t = -5
  · rw [if_pos hc] at h
    have r1 := fun Q => m_settle (S := S) (t := t) hk ht Q
    refine vg_cut (fun m pc => (m == 171 && pc == 24)) (fun m => m == 171) 60 _ _ _ _ _ _ ?_
    repeat' first | (with_reducible refine vT ?_ ?_; · omega) | (with_reducible refine vF ?_ ?_; · omega) | (with_reducible refine vI (fun _ => ?_) (fun _ => ?_)) | (simp (config := {maxSteps := 1000000}) (disch := (first | assumption | omega | (rw [hr_at]; assumption) | (rw [hr_at]; omega))) only [f_X8_doAll, wg_0, wg_s, wK_none, wK_N, wK_C, wK_R, wQ_some, wQ_none, stR, mZ, mC, stI, ini, mL, gI, gA, sI, sA, bi, gF, pF, kF, kT, kL, c2, mT, mR, f4, tsw, lsw, tgt, inR, Nat.reduceLT, Nat.reduceLeDiff, Nat.reduceEqDiff, Nat.reduceAdd, Nat.reduceSub, ↓reduceIte, Bool.false_eq_true, List.map_cons, List.map_nil, List.length_cons, List.length_nil, List.replicate, List.cons_append, List.nil_append, List.getElem?_cons_zero, List.getElem?_cons_succ, List.set, List.take_succ_cons, List.take_zero, List.drop_succ_cons, List.drop_zero, List.reverse_cons, List.reverse_nil, Int.reduceLE, Int.reduceLT, Int.reduceNeg, Int.reduceToNat, true_and, and_true, and_self, beq_iff_eq, Bool.and_eq_true, Bool.or_eq_true, or_false, false_or, or_true, true_or, and_false, false_and, hu_hr, hr_hr, hr_at, hr_nc, not_false_eq_true, Int.reduceEq, Int.pow_zero, Int.reducePow, Int.reduceMul, Int.reduceAdd, Int.reduceDiv, Int.reduceMod, Int.zero_add, Int.add_zero, Int.mul_one, Int.cast_ofNat_Int, r1])
    all_goals exact h
  · rw [if_neg hc] at h
    have r1 := fun Q => m_settle (S := S) (t := m) hk (by omega) Q
    refine vg_cut (fun m pc => (m == 171 && pc == 24)) (fun m => m == 171) 60 _ _ _ _ _ _ ?_
    repeat' first | (with_reducible refine vT ?_ ?_; · omega) | (with_reducible refine vF ?_ ?_; · omega) | (with_reducible refine vI (fun _ => ?_) (fun _ => ?_)) | (simp (config := {maxSteps := 1000000}) (disch := (first | assumption | omega | (rw [hr_at]; assumption) | (rw [hr_at]; omega))) only [f_X8_doAll, wg_0, wg_s, wK_none, wK_N, wK_C, wK_R, wQ_some, wQ_none, stR, mZ, mC, stI, ini, mL, gI, gA, sI, sA, bi, gF, pF, kF, kT, kL, c2, mT, mR, f4, tsw, lsw, tgt, inR, Nat.reduceLT, Nat.reduceLeDiff, Nat.reduceEqDiff, Nat.reduceAdd, Nat.reduceSub, ↓reduceIte, Bool.false_eq_true, List.map_cons, List.map_nil, List.length_cons, List.length_nil, List.replicate, List.cons_append, List.nil_append, List.getElem?_cons_zero, List.getElem?_cons_succ, List.set, List.take_succ_cons, List.take_zero, List.drop_succ_cons, List.drop_zero, List.reverse_cons, List.reverse_nil, Int.reduceLE, Int.reduceLT, Int.reduceNeg, Int.reduceToNat, true_and, and_true, and_self, beq_iff_eq, Bool.and_eq_true, Bool.or_eq_true, or_false, false_or, or_true, true_or, and_false, false_and, hu_hr, hr_hr, hr_at, hr_nc, not_false_eq_true, Int.reduceEq, Int.pow_zero, Int.reducePow, Int.reduceMul, Int.reduceAdd, Int.reduceDiv, Int.reduceMod, Int.zero_add, Int.add_zero, Int.mul_one, Int.cast_ofNat_Int, r1])
    all_goals exact h
set_option maxHeartbeats 4000000 in
set_option maxRecDepth 100000 in
theorem da_step {S : Hp} {m t z : Int} {Q : Option MV → Hp → Prop} (ht : tdR t) (hm : 0 ≤ m ∧ m < 1000) (hz : 0 ≤ z ∧ z < m) (he : 0 ≤ t ∨ t = -5) (hT : TxP (S 0 35) (S 0 30)) (hP : OpP (S 0 31)) (h10 : tdR (S 0 30 10)) (h11 : tdR (S 0 30 11)) (h : Wp 171 24 [some (.inr (0, 30)), some (.inl m), some (.inl (ordV (S 0 31) (roR (S 0 35) (S 0 30)))), some (.inl (z + 1))] [] (hr (hr S 0 31 (ordM (S 0 31) (roR (S 0 35) (S 0 30)))) 0 30 (up (roR (S 0 35) (S 0 30)) 5 (roR (S 0 35) (S 0 30) 5 + 1))) Q) : Wp 171 24 [some (.inr (0, 30)), some (.inl m), some (.inl t), some (.inl z)] [] S Q := by
  have r1 := fun Q => m_readOrder (S := S) hT Q
  have hr0 := roR_tx hT
  have r2 := fun Q => m_orderNow (S := hr S 0 30 (roR (S 0 35) (S 0 30))) (by rw [hr_nc (by decide)]; exact hP) (by rw [hr_at]; exact hr0.1) (by rw [hr_at]; exact hr0.2.1 h10) (by rw [hr_at]; exact hr0.2.2 h11) Q
  rw [hr_at, hr_nc (by decide)] at r2
  rw [hr_comm _ _ _ (by decide)] at h
  have ec : hr (hr S 0 30 (up (roR (S 0 35) (S 0 30)) 5 (roR (S 0 35) (S 0 30) 5 + 1))) 0 31 (ordM (S 0 31) (roR (S 0 35) (S 0 30))) = hr (hr (hr S 0 30 (roR (S 0 35) (S 0 30))) 0 31 (ordM (S 0 31) (roR (S 0 35) (S 0 30)))) 0 30 (up (roR (S 0 35) (S 0 30)) 5 (roR (S 0 35) (S 0 30) 5 + 1)) := by
    rw [hr_comm (hr S 0 30 (roR (S 0 35) (S 0 30))) _ _ (by decide), hr_hr]
  rw [ec] at h
  unfold tdR at ht
  refine vg_cut (fun m pc => (m == 171 && pc == 24)) (fun m => m == 171) 60 _ _ _ _ _ _ ?_
  repeat' first | (with_reducible refine vT ?_ ?_; · omega) | (with_reducible refine vF ?_ ?_; · omega) | (with_reducible refine vI (fun _ => ?_) (fun _ => ?_)) | (simp (config := {maxSteps := 1000000}) (disch := (first | assumption | omega | (rw [hr_at]; assumption) | (rw [hr_at]; omega))) only [f_X8_doAll, wg_0, wg_s, wK_none, wK_N, wK_C, wK_R, wQ_some, wQ_none, stR, mZ, mC, stI, ini, mL, gI, gA, sI, sA, bi, gF, pF, kF, kT, kL, c2, mT, mR, f4, tsw, lsw, tgt, inR, Nat.reduceLT, Nat.reduceLeDiff, Nat.reduceEqDiff, Nat.reduceAdd, Nat.reduceSub, ↓reduceIte, Bool.false_eq_true, List.map_cons, List.map_nil, List.length_cons, List.length_nil, List.replicate, List.cons_append, List.nil_append, List.getElem?_cons_zero, List.getElem?_cons_succ, List.set, List.take_succ_cons, List.take_zero, List.drop_succ_cons, List.drop_zero, List.reverse_cons, List.reverse_nil, Int.reduceLE, Int.reduceLT, Int.reduceNeg, Int.reduceToNat, true_and, and_true, and_self, beq_iff_eq, Bool.and_eq_true, Bool.or_eq_true, or_false, false_or, or_true, true_or, and_false, false_and, hu_hr, hr_hr, hr_at, hr_nc, not_false_eq_true, Int.reduceEq, Int.pow_zero, Int.reducePow, Int.reduceMul, Int.reduceAdd, Int.reduceDiv, Int.reduceMod, Int.zero_add, Int.add_zero, Int.mul_one, Int.cast_ofNat_Int, r1, r2])
  all_goals exact h
set_option maxHeartbeats 4000000 in
set_option maxRecDepth 100000 in
theorem da_loop {m : Int} {Q : Option MV → Hp → Prop} (hm : 0 ≤ m ∧ m < 1000) : ∀ (n : Nat) (S : Hp) (t z : Int), z + n = m → 0 ≤ z → tdR (S 0 30 10) → tdR (S 0 30 11) → (0 ≤ S 0 30 6 ∧ S 0 30 6 ≤ 4) → daP (S 0 35) n (S 0 30) (S 0 31) t → (∀ T t', t' = (daL (S 0 35) n (S 0 30) (S 0 31) t).2.2 → T = hr (hr S 0 31 (daL (S 0 35) n (S 0 30) (S 0 31) t).2.1) 0 30 (daL (S 0 35) n (S 0 30) (S 0 31) t).1 → Q (some (.inl (if t' < 0 ∧ ¬ t' = -5 then t' else m))) (setS T (if t' < 0 ∧ ¬ t' = -5 then t' else m))) → Wp 171 24 [some (.inr (0, 30)), some (.inl m), some (.inl t), some (.inl z)] [] S Q
  | 0, S, t, z, hz, hz0, h10, h11, hk, hP, h => by
    refine da_exit hP hm (by omega) hk (Or.inl (by omega)) (h S t rfl ?_)
    unfold daL
    rw [hr_id]
    exact (hr_id S 0 30).symm
  | n + 1, S, t, z, hz, hz0, h10, h11, hk, hP, h => by
    unfold daP at hP
    by_cases hc : 0 ≤ t ∨ t = -5
    · have hP2 := hP.2 hc
      have hr0 := roR_tx hP2.1
      refine da_step hP.1 hm (by omega) hc hP2.1 hP2.2.1 h10 h11 ?_
      refine da_loop hm n _ _ _ (by omega) (by omega) ?_ ?_ ?_ ?_ ?_
      · rw [hr_at, up_ne (by decide)]; exact hr0.2.1 h10
      · rw [hr_at, up_ne (by decide)]; exact hr0.2.2 h11
      · rw [hr_at, up_ne (by decide), roR_ne (by decide)]; exact hk
      · simp (disch := decide) only [hr_at, hr_nc]
        exact hP2.2.2
      · intro T t' ht' hT'
        simp (disch := decide) only [hr_at, hr_nc] at ht' hT'
        unfold daL at h
        rw [if_pos hc] at h
        refine h T t' ht' ?_
        rw [hT', hr_comm (hr S 0 31 _) _ _ (by decide), hr_hr, hr_hr]
    · unfold daL at h
      rw [if_neg hc] at h
      refine da_exit hP.1 hm (by omega) hk (Or.inr (by omega)) (h S t rfl ?_)
      rw [hr_id]
      exact (hr_id S 0 30).symm
def daT (X R M : Int → Int) : (Int → Int) × (Int → Int) × Int := daL X (raM X R).1.toNat (up (raM X R).2 5 0) M 0
def daR (X R M : Int → Int) : Int := if (daT X R M).2.2 < 0 ∧ ¬ (daT X R M).2.2 = -5 then (daT X R M).2.2 else (raM X R).1
set_option maxHeartbeats 4000000 in
set_option maxRecDepth 100000 in
theorem m_doAll {S : Hp} (hT : TxQ (S 0 35) (S 0 30)) (hk : 0 ≤ S 0 30 6 ∧ S 0 30 6 ≤ 4) (h10 : tdR (raM (S 0 35) (S 0 30) |>.2 10)) (h11 : tdR (raM (S 0 35) (S 0 30) |>.2 11)) (hP : 0 ≤ (raM (S 0 35) (S 0 30)).1 → daP (S 0 35) (raM (S 0 35) (S 0 30)).1.toNat (up (raM (S 0 35) (S 0 30)).2 5 0) (S 0 31) 0) (Q : Option MV → Hp → Prop) : Wc 171 [.inr (0, 30)] S Q = Q (some (.inl (if (raM (S 0 35) (S 0 30)).1 < 0 then (raM (S 0 35) (S 0 30)).1 else daR (S 0 35) (S 0 30) (S 0 31)))) (if (raM (S 0 35) (S 0 30)).1 < 0 then hr S 0 30 (raM (S 0 35) (S 0 30)).2 else actS (hr S 0 30 (daT (S 0 35) (S 0 30) (S 0 31)).1) (daT (S 0 35) (S 0 30) (S 0 31)).2.1 (daR (S 0 35) (S 0 30) (S 0 31))) := by
  refine Wc_eq ?_ Q
  unfold Wc
  have hb := raM_b hT
  have r1 := fun Q => m_readAll (S := S) hT Q
  by_cases h : (raM (S 0 35) (S 0 30)).1 < 0
  · rw [if_pos h, if_pos h]
    refine vg_sound (fun m pc => (m == 171 && pc == 24)) (fun m => m == 171) 60 _ _ _ _ _ _ ?_
    repeat' first | (with_reducible refine vT ?_ ?_; · omega) | (with_reducible refine vF ?_ ?_; · omega) | (with_reducible refine vI (fun _ => ?_) (fun _ => ?_)) | (simp (config := {maxSteps := 1000000}) (disch := (first | assumption | omega | (rw [hr_at]; assumption) | (rw [hr_at]; omega))) only [f_X8_doAll, wg_0, wg_s, wK_none, wK_N, wK_C, wK_R, wQ_some, wQ_none, stR, mZ, mC, stI, ini, mL, gI, gA, sI, sA, bi, gF, pF, kF, kT, kL, c2, mT, mR, f4, tsw, lsw, tgt, inR, Nat.reduceLT, Nat.reduceLeDiff, Nat.reduceEqDiff, Nat.reduceAdd, Nat.reduceSub, ↓reduceIte, Bool.false_eq_true, List.map_cons, List.map_nil, List.length_cons, List.length_nil, List.replicate, List.cons_append, List.nil_append, List.getElem?_cons_zero, List.getElem?_cons_succ, List.set, List.take_succ_cons, List.take_zero, List.drop_succ_cons, List.drop_zero, List.reverse_cons, List.reverse_nil, Int.reduceLE, Int.reduceLT, Int.reduceNeg, Int.reduceToNat, true_and, and_true, and_self, beq_iff_eq, Bool.and_eq_true, Bool.or_eq_true, or_false, false_or, or_true, true_or, and_false, false_and, hu_hr, hr_hr, hr_at, hr_nc, not_false_eq_true, Int.reduceEq, Int.pow_zero, Int.reducePow, Int.reduceMul, Int.reduceAdd, Int.reduceDiv, Int.reduceMod, Int.zero_add, Int.add_zero, Int.mul_one, Int.cast_ofNat_Int, r1])
  · rw [if_neg h, if_neg h]
    have r2 := fun Q => m_lay (S := hr S 0 30 (raM (S 0 35) (S 0 30)).2) Q
    rw [hr_nc (by decide), hr_nc (by decide)] at r2
    have r0 := hP (by omega)
    refine vg_sound (fun m pc => (m == 171 && pc == 24)) (fun m => m == 171) 60 _ _ _ _ _ _ ?_
    repeat' first | (with_reducible refine vT ?_ ?_; · omega) | (with_reducible refine vF ?_ ?_; · omega) | (with_reducible refine vI (fun _ => ?_) (fun _ => ?_)) | (simp (config := {maxSteps := 1000000}) (disch := (first | assumption | omega | (rw [hr_at]; assumption) | (rw [hr_at]; omega))) only [f_X8_doAll, wg_0, wg_s, wK_none, wK_N, wK_C, wK_R, wQ_some, wQ_none, stR, mZ, mC, stI, ini, mL, gI, gA, sI, sA, bi, gF, pF, kF, kT, kL, c2, mT, mR, f4, tsw, lsw, tgt, inR, Nat.reduceLT, Nat.reduceLeDiff, Nat.reduceEqDiff, Nat.reduceAdd, Nat.reduceSub, ↓reduceIte, Bool.false_eq_true, List.map_cons, List.map_nil, List.length_cons, List.length_nil, List.replicate, List.cons_append, List.nil_append, List.getElem?_cons_zero, List.getElem?_cons_succ, List.set, List.take_succ_cons, List.take_zero, List.drop_succ_cons, List.drop_zero, List.reverse_cons, List.reverse_nil, Int.reduceLE, Int.reduceLT, Int.reduceNeg, Int.reduceToNat, true_and, and_true, and_self, beq_iff_eq, Bool.and_eq_true, Bool.or_eq_true, or_false, false_or, or_true, true_or, and_false, false_and, hu_hr, hr_hr, hr_at, hr_nc, not_false_eq_true, Int.reduceEq, Int.pow_zero, Int.reducePow, Int.reduceMul, Int.reduceAdd, Int.reduceDiv, Int.reduceMod, Int.zero_add, Int.add_zero, Int.mul_one, Int.cast_ofNat_Int, r1, r2])
    refine da_loop (m := (raM (S 0 35) (S 0 30)).1) (by omega) (raM (S 0 35) (S 0 30)).1.toNat _ 0 0 (by omega) (by omega) ?_ ?_ ?_ ?_ ?_
    all_goals simp (disch := decide) only [hr_at, hr_nc, up_ne]
    · exact h10
    · exact h11
    · rw [hb.2.2.2.2 6 (by decide)]; exact hk
    · exact r0
    · intro T t' ht' hT'
      subst ht' hT'
      refine ⟨rfl, ?_⟩
      rw [← actS_eq]
      congr 1
      simp (disch := decide) only [hr_at, hr_nc]
      funext a b
      unfold hr daT
      by_cases h30 : a = 0 ∧ b = 30 <;> by_cases h31 : a = 0 ∧ b = 31 <;> by_cases h33 : a = 0 ∧ b = 33 <;> simp [h30, h31, h33]
