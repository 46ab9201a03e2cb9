/-! THE CLASS: orders are read, as the reference reads them -/
set_option maxHeartbeats 4000000 in
set_option maxRecDepth 100000 in
theorem cn_nu {X : Int → Int} {len a b : Int} (hl : len ≤ 60) (ha : 0 ≤ a ∧ a ≤ 1) (hb : 0 ≤ b ∧ b < 1000) : ∀ (n m : Nat) (v p : Int), 61 ≤ p + n → 60 ≤ p + m → p ≤ len → 0 ≤ v → cnL X len a b n v p = (if nxP X len (nuL X len b m v p).2 48 57 then -5 else (nuL X len b m v p).1, (nuL X len b m v p).2)
  | 0, m, v, p, hn, hm, hp, hv => by omega
  | n + 1, 0, v, p, hn, hm, hp, hv => by
    unfold cnL nuL
    have e : p = len := by omega
    rw [if_neg (by omega)]
    dsimp only
    rw [if_neg (fun q => by have := q.1; omega)]
  | n + 1, m + 1, v, p, hn, hm, hp, hv => by
    unfold cnL nuL
    by_cases h1 : p < len
    · rw [if_pos h1]
      by_cases h2 : X p < 48 ∨ 57 < X p
      · rw [if_pos h2, if_neg (fun q : nuC X len b v p => by have := q.2.1.2; omega)]
        dsimp only
        rw [if_neg (fun q : nxP X len p 48 57 => by have := q.2; omega)]
      · rw [if_neg h2]
        by_cases h3 : v = 0
        · rw [if_pos h3, if_neg (fun q : nuC X len b v p => by have := q.1; omega)]
          dsimp only
          rw [if_pos (show nxP X len p 48 57 from ⟨h1, by omega, by omega⟩)]
        · rw [if_neg h3, if_neg (show ¬ v = -5 by omega)]
          by_cases h4 : v * 10 + (X p - 48) < a ∨ b < v * 10 + (X p - 48)
          · rw [if_pos h4, if_neg (fun q : nuC X len b v p => by have := q.2.2; omega)]
            dsimp only
            rw [if_pos (show nxP X len p 48 57 from ⟨h1, by omega, by omega⟩)]
          · rw [if_neg h4, if_pos (show nuC X len b v p from ⟨by omega, ⟨h1, by omega, by omega⟩, by omega⟩)]
            have e : v * 10 + (X p - 48) = 10 * v + X p - 48 := by omega
            rw [e]
            exact cn_nu hl ha hb n m _ (p + 1) (by omega) (by omega) (by omega) (by omega)
    · rw [if_neg h1, if_neg (fun q : nuC X len b v p => by have := q.2.1.1; omega)]
      dsimp only
      rw [if_neg (fun q : nxP X len p 48 57 => by have := q.1; omega)]
set_option maxHeartbeats 4000000 in
set_option maxRecDepth 100000 in
theorem cn_num {X : Int → Int} {len p a b : Int} (hl : len ≤ 60) (hp : 0 ≤ p ∧ p ≤ len) (ha : 0 ≤ a ∧ a ≤ 1) (hb : 0 ≤ b ∧ b < 1000) : cnM X len p a b = (if nxP X len (nuM X len p a b).2 48 57 then -5 else (nuM X len p a b).1, (nuM X len p a b).2) := by
  unfold cnM nuM
  show cnL X len a b (60 + 1) (-5) p = _
  unfold cnL
  by_cases h1 : p < len
  · rw [if_pos h1]
    by_cases h2 : X p < 48 ∨ 57 < X p
    · rw [if_pos h2, if_neg (fun q : nxP X len p (48 + a) (if b < 9 then 48 + b else 57) => by
        have q1 := q.2.1
        have q2 := q.2.2
        split at q2 <;> omega)]
      dsimp only
      rw [if_neg (fun q : nxP X len p 48 57 => by have := q.2; omega)]
    · rw [if_neg h2, if_neg (by decide), if_pos rfl]
      by_cases h4 : X p - 48 < a ∨ b < X p - 48
      · rw [if_pos h4, if_neg (fun q : nxP X len p (48 + a) (if b < 9 then 48 + b else 57) => by
          have q1 := q.2.1
          have q2 := q.2.2
          split at q2 <;> omega)]
        dsimp only
        rw [if_pos (show nxP X len p 48 57 from ⟨h1, by omega, by omega⟩)]
      · rw [if_neg h4, if_pos (show nxP X len p (48 + a) (if b < 9 then 48 + b else 57) from ⟨h1, by omega, by split <;> omega⟩)]
        exact cn_nu hl ha hb 60 60 _ (p + 1) (by omega) (by omega) (by omega) (by omega)
  · rw [if_neg h1, if_neg (fun q : nxP X len p (48 + a) (if b < 9 then 48 + b else 57) => by have := q.1; omega)]
    dsimp only
    rw [if_neg (fun q : nxP X len p 48 57 => by have := q.1; omega)]
set_option maxHeartbeats 4000000 in
set_option maxRecDepth 100000 in
theorem TxC_u {X R : Int → Int} {p : Int} (h : TxC X R) (hp : 0 ≤ p ∧ p ≤ R 0) : TxC X (up R 6 p) := TxC_p h hp
/- a number read behind a sign, in the reference's words -/
set_option maxHeartbeats 4000000 in
set_option maxRecDepth 100000 in
theorem c_num {S : Hp} {R A B C : Int → Int} {a b p : Int} (hT : TxC (S 0 29) R) (hp : 0 ≤ p ∧ p ≤ R 0) (ha : 0 ≤ a ∧ a ≤ 1) (hb : 0 ≤ b ∧ b < 1000) (Q : Option MV → Hp → Prop) : Wc 50 [.inr (0, 25), .inl a, .inl b] (hq S (up R 6 p) A B C) Q = Q (some (.inl (if nxP (S 0 29) (R 0) (nuM (S 0 29) (R 0) p a b).2 48 57 then -5 else (nuM (S 0 29) (R 0) p a b).1))) (hq S (up R 6 (nuM (S 0 29) (R 0) p a b).2) A B C) := by
  have r := c_readNumber (S := S) (R := up R 6 p) (A := A) (B := B) (C := C) (TxC_p hT hp) ha hb Q
  rw [up_eq rfl, up_ne (by decide), up_up, cn_num hT.2.1 hp ha hb] at r
  exact r
set_option maxHeartbeats 4000000 in
set_option maxRecDepth 100000 in
theorem c_no {S : Hp} {R A B C : Int → Int} {i : Int} (hT : TxC (S 0 29) R) (hi : 0 ≤ i ∧ i < 20) (ho : ¬ (R 6 < R 0 ∧ okO (S 0 29 (R 6)))) (Q : Option MV → Hp → Prop) : Wc 46 [.inr (0, 25), .inl i] (hq S R A B C) Q = Q (some (.inl 0)) (hq S R A B C) := by
  refine Wc_eq ?_ Q
  unfold Wc
  obtain ⟨h1, h2, h3⟩ := hT
  by_cases hc : R 6 < R 0
  · have hx := h3 (R 6) (by omega) (by omega)
    refine vg_sound (fun _ _ => false) (fun m => m == 46) 60 _ _ _ _ _ _ ?_
    repeat' first | (with_reducible refine vT ?_ ?_; · omega) | (with_reducible refine vF ?_ ?_; · omega) | (with_reducible refine vI (fun _ => ?_) (fun _ => ?_)) | (simp (config := {maxSteps := 1000000}) (disch := (first | assumption | omega | (rw [hr_at]; assumption) | (rw [hr_at]; omega))) only [f_X4_readOrder, wg_0, wg_s, wK_none, wK_N, wK_C, wK_R, wQ_some, wQ_none, stR, mZ, mC, stI, ini, mL, gI, gA, sI, sA, bi, gF, pF, kF, kT, kL, c2, mT, mR, f4, tsw, lsw, tgt, inR, Nat.reduceLT, Nat.reduceLeDiff, Nat.reduceEqDiff, Nat.reduceAdd, Nat.reduceSub, ↓reduceIte, Bool.false_eq_true, List.map_cons, List.map_nil, List.length_cons, List.length_nil, List.replicate, List.cons_append, List.nil_append, List.getElem?_cons_zero, List.getElem?_cons_succ, List.set, List.take_succ_cons, List.take_zero, List.drop_succ_cons, List.drop_zero, List.reverse_cons, List.reverse_nil, Int.reduceLE, Int.reduceLT, Int.reduceNeg, Int.reduceToNat, true_and, and_true, and_self, beq_iff_eq, Bool.and_eq_true, Bool.or_eq_true, or_false, false_or, or_true, true_or, and_false, false_and, hu_q25, hu_q26, hu_q27, hu_q28, q_25, q_26, q_27, q_28, q_nc, not_false_eq_true, Int.reduceEq, Int.pow_zero, Int.reducePow, Int.reduceMul, Int.reduceAdd, Int.reduceDiv, Int.reduceMod, Int.zero_add, Int.add_zero, Int.mul_one, Int.cast_ofNat_Int])
    all_goals omega
  · refine vg_sound (fun _ _ => false) (fun m => m == 46) 60 _ _ _ _ _ _ ?_
    repeat' first | (with_reducible refine vT ?_ ?_; · omega) | (with_reducible refine vF ?_ ?_; · omega) | (with_reducible refine vI (fun _ => ?_) (fun _ => ?_)) | (simp (config := {maxSteps := 1000000}) (disch := (first | assumption | omega | (rw [hr_at]; assumption) | (rw [hr_at]; omega))) only [f_X4_readOrder, wg_0, wg_s, wK_none, wK_N, wK_C, wK_R, wQ_some, wQ_none, stR, mZ, mC, stI, ini, mL, gI, gA, sI, sA, bi, gF, pF, kF, kT, kL, c2, mT, mR, f4, tsw, lsw, tgt, inR, Nat.reduceLT, Nat.reduceLeDiff, Nat.reduceEqDiff, Nat.reduceAdd, Nat.reduceSub, ↓reduceIte, Bool.false_eq_true, List.map_cons, List.map_nil, List.length_cons, List.length_nil, List.replicate, List.cons_append, List.nil_append, List.getElem?_cons_zero, List.getElem?_cons_succ, List.set, List.take_succ_cons, List.take_zero, List.drop_succ_cons, List.drop_zero, List.reverse_cons, List.reverse_nil, Int.reduceLE, Int.reduceLT, Int.reduceNeg, Int.reduceToNat, true_and, and_true, and_self, beq_iff_eq, Bool.and_eq_true, Bool.or_eq_true, or_false, false_or, or_true, true_or, and_false, false_and, hu_q25, hu_q26, hu_q27, hu_q28, q_25, q_26, q_27, q_28, q_nc, not_false_eq_true, Int.reduceEq, Int.pow_zero, Int.reducePow, Int.reduceMul, Int.reduceAdd, Int.reduceDiv, Int.reduceMod, Int.zero_add, Int.add_zero, Int.mul_one, Int.cast_ofNat_Int])
abbrev ckB (X : Int → Int) (len p o : Int) : Prop := (prs X len p o).2.1 = -5 ∨ (prs X len p o).2.2 = -5 ∨ nxP X len (prs X len p o).1 48 57
set_option maxHeartbeats 4000000 in
set_option maxRecDepth 100000 in
theorem c_one {S : Hp} {R A B C : Int → Int} {i o a b : Int} (hT : TxC (S 0 29) R) (hi : 0 ≤ i ∧ i < 20) (hl : R 6 < R 0) (ho : S 0 29 (R 6) = o) (ho2 : (o = 115 ∧ a = 0 ∧ b = 599) ∨ (o = 100 ∧ a = 0 ∧ b = 5) ∨ (o = 116 ∧ a = 1 ∧ b = 99)) (Q : Option MV → Hp → Prop) : Wc 46 [.inr (0, 25), .inl i] (hq S R A B C) Q = Q (some (.inl (if (nuM (S 0 29) (R 0) (R 6 + 1) a b).1 = -5 ∨ nxP (S 0 29) (R 0) (nuM (S 0 29) (R 0) (R 6 + 1) a b).2 48 57 then 0 else 1))) (hq S (up R 6 (nuM (S 0 29) (R 0) (R 6 + 1) a b).2) (up A i o) B (up C i (if nxP (S 0 29) (R 0) (nuM (S 0 29) (R 0) (R 6 + 1) a b).2 48 57 then -5 else (nuM (S 0 29) (R 0) (R 6 + 1) a b).1))) := by
  have h1 := hT.1
  have h2 := hT.2.1
  have r1 := fun A Q => c_num (S := S) (R := R) (A := A) (B := B) (C := C) (a := a) (b := b) (p := R 6 + 1) hT (by omega) (by omega) (by omega) Q
  have hb := nuM_b (X := S 0 29) (len := R 0) (p := R 6 + 1) (a := a) (b := b) (by omega) (by omega) (by omega)
  generalize nuM (S 0 29) (R 0) (R 6 + 1) a b = N at *
  obtain ⟨v, hv⟩ : ∃ v, v = (if nxP (S 0 29) (R 0) N.2 48 57 then -5 else N.1) := ⟨_, rfl⟩
  rw [← hv] at r1 ⊢
  have hvb : (v = -5 ∧ (N.1 = -5 ∨ nxP (S 0 29) (R 0) N.2 48 57)) ∨ (0 ≤ v ∧ v < 1000 ∧ ¬ (N.1 = -5 ∨ nxP (S 0 29) (R 0) N.2 48 57)) := by
    by_cases c1 : nxP (S 0 29) (R 0) N.2 48 57
    · rw [if_pos c1] at hv; exact Or.inl ⟨hv, Or.inr c1⟩
    · rw [if_neg c1] at hv
      by_cases c3 : N.1 = -5
      · exact Or.inl ⟨by omega, Or.inl c3⟩
      · exact Or.inr ⟨by omega, by omega, fun q => q.elim c3 c1⟩
  have e1 : up C i v i = v := up_eq rfl
  refine Wc_eq ?_ Q
  unfold Wc
  rcases hvb with ⟨g, g2⟩ | ⟨g, g3, g2⟩
  · rw [if_pos g2]
    rw [g] at e1
    rcases ho2 with ⟨rfl, rfl, rfl⟩ | ⟨rfl, rfl, rfl⟩ | ⟨rfl, rfl, rfl⟩
    · refine vg_sound (fun _ _ => false) (fun m => m == 46 || m == 47) 100 _ _ _ _ _ _ ?_
      repeat' first | (with_reducible refine vT ?_ ?_; · omega) | (with_reducible refine vF ?_ ?_; · omega) | (with_reducible refine vI (fun _ => ?_) (fun _ => ?_)) | (simp (config := {maxSteps := 1000000}) (disch := (first | assumption | omega | (rw [hr_at]; assumption) | (rw [hr_at]; omega))) only [f_X4_readOrder, f_X4_mostBehind, wg_0, wg_s, wK_none, wK_N, wK_C, wK_R, wQ_some, wQ_none, stR, mZ, mC, stI, ini, mL, gI, gA, sI, sA, bi, gF, pF, kF, kT, kL, c2, mT, mR, f4, tsw, lsw, tgt, inR, Nat.reduceLT, Nat.reduceLeDiff, Nat.reduceEqDiff, Nat.reduceAdd, Nat.reduceSub, ↓reduceIte, Bool.false_eq_true, List.map_cons, List.map_nil, List.length_cons, List.length_nil, List.replicate, List.cons_append, List.nil_append, List.getElem?_cons_zero, List.getElem?_cons_succ, List.set, List.take_succ_cons, List.take_zero, List.drop_succ_cons, List.drop_zero, List.reverse_cons, List.reverse_nil, Int.reduceLE, Int.reduceLT, Int.reduceNeg, Int.reduceToNat, true_and, and_true, and_self, beq_iff_eq, Bool.and_eq_true, Bool.or_eq_true, or_false, false_or, or_true, true_or, and_false, false_and, hu_q25, hu_q26, hu_q27, hu_q28, q_25, q_26, q_27, q_28, q_nc, not_false_eq_true, Int.reduceEq, Int.pow_zero, Int.reducePow, Int.reduceMul, Int.reduceAdd, Int.reduceDiv, Int.reduceMod, Int.zero_add, Int.add_zero, Int.mul_one, Int.cast_ofNat_Int, ho, r1, e1, g])
    · refine vg_sound (fun _ _ => false) (fun m => m == 46 || m == 47) 100 _ _ _ _ _ _ ?_
      repeat' first | (with_reducible refine vT ?_ ?_; · omega) | (with_reducible refine vF ?_ ?_; · omega) | (with_reducible refine vI (fun _ => ?_) (fun _ => ?_)) | (simp (config := {maxSteps := 1000000}) (disch := (first | assumption | omega | (rw [hr_at]; assumption) | (rw [hr_at]; omega))) only [f_X4_readOrder, f_X4_mostBehind, wg_0, wg_s, wK_none, wK_N, wK_C, wK_R, wQ_some, wQ_none, stR, mZ, mC, stI, ini, mL, gI, gA, sI, sA, bi, gF, pF, kF, kT, kL, c2, mT, mR, f4, tsw, lsw, tgt, inR, Nat.reduceLT, Nat.reduceLeDiff, Nat.reduceEqDiff, Nat.reduceAdd, Nat.reduceSub, ↓reduceIte, Bool.false_eq_true, List.map_cons, List.map_nil, List.length_cons, List.length_nil, List.replicate, List.cons_append, List.nil_append, List.getElem?_cons_zero, List.getElem?_cons_succ, List.set, List.take_succ_cons, List.take_zero, List.drop_succ_cons, List.drop_zero, List.reverse_cons, List.reverse_nil, Int.reduceLE, Int.reduceLT, Int.reduceNeg, Int.reduceToNat, true_and, and_true, and_self, beq_iff_eq, Bool.and_eq_true, Bool.or_eq_true, or_false, false_or, or_true, true_or, and_false, false_and, hu_q25, hu_q26, hu_q27, hu_q28, q_25, q_26, q_27, q_28, q_nc, not_false_eq_true, Int.reduceEq, Int.pow_zero, Int.reducePow, Int.reduceMul, Int.reduceAdd, Int.reduceDiv, Int.reduceMod, Int.zero_add, Int.add_zero, Int.mul_one, Int.cast_ofNat_Int, ho, r1, e1, g])
    · refine vg_sound (fun _ _ => false) (fun m => m == 46 || m == 47) 100 _ _ _ _ _ _ ?_
      repeat' first | (with_reducible refine vT ?_ ?_; · omega) | (with_reducible refine vF ?_ ?_; · omega) | (with_reducible refine vI (fun _ => ?_) (fun _ => ?_)) | (simp (config := {maxSteps := 1000000}) (disch := (first | assumption | omega | (rw [hr_at]; assumption) | (rw [hr_at]; omega))) only [f_X4_readOrder, f_X4_mostBehind, wg_0, wg_s, wK_none, wK_N, wK_C, wK_R, wQ_some, wQ_none, stR, mZ, mC, stI, ini, mL, gI, gA, sI, sA, bi, gF, pF, kF, kT, kL, c2, mT, mR, f4, tsw, lsw, tgt, inR, Nat.reduceLT, Nat.reduceLeDiff, Nat.reduceEqDiff, Nat.reduceAdd, Nat.reduceSub, ↓reduceIte, Bool.false_eq_true, List.map_cons, List.map_nil, List.length_cons, List.length_nil, List.replicate, List.cons_append, List.nil_append, List.getElem?_cons_zero, List.getElem?_cons_succ, List.set, List.take_succ_cons, List.take_zero, List.drop_succ_cons, List.drop_zero, List.reverse_cons, List.reverse_nil, Int.reduceLE, Int.reduceLT, Int.reduceNeg, Int.reduceToNat, true_and, and_true, and_self, beq_iff_eq, Bool.and_eq_true, Bool.or_eq_true, or_false, false_or, or_true, true_or, and_false, false_and, hu_q25, hu_q26, hu_q27, hu_q28, q_25, q_26, q_27, q_28, q_nc, not_false_eq_true, Int.reduceEq, Int.pow_zero, Int.reducePow, Int.reduceMul, Int.reduceAdd, Int.reduceDiv, Int.reduceMod, Int.zero_add, Int.add_zero, Int.mul_one, Int.cast_ofNat_Int, ho, r1, e1, g])
  · rw [if_neg g2]
    rcases ho2 with ⟨rfl, rfl, rfl⟩ | ⟨rfl, rfl, rfl⟩ | ⟨rfl, rfl, rfl⟩
    · refine vg_sound (fun _ _ => false) (fun m => m == 46 || m == 47) 100 _ _ _ _ _ _ ?_
      repeat' first | (with_reducible refine vT ?_ ?_; · omega) | (with_reducible refine vF ?_ ?_; · omega) | (with_reducible refine vI (fun _ => ?_) (fun _ => ?_)) | (simp (config := {maxSteps := 1000000}) (disch := (first | assumption | omega | (rw [hr_at]; assumption) | (rw [hr_at]; omega))) only [f_X4_readOrder, f_X4_mostBehind, wg_0, wg_s, wK_none, wK_N, wK_C, wK_R, wQ_some, wQ_none, stR, mZ, mC, stI, ini, mL, gI, gA, sI, sA, bi, gF, pF, kF, kT, kL, c2, mT, mR, f4, tsw, lsw, tgt, inR, Nat.reduceLT, Nat.reduceLeDiff, Nat.reduceEqDiff, Nat.reduceAdd, Nat.reduceSub, ↓reduceIte, Bool.false_eq_true, List.map_cons, List.map_nil, List.length_cons, List.length_nil, List.replicate, List.cons_append, List.nil_append, List.getElem?_cons_zero, List.getElem?_cons_succ, List.set, List.take_succ_cons, List.take_zero, List.drop_succ_cons, List.drop_zero, List.reverse_cons, List.reverse_nil, Int.reduceLE, Int.reduceLT, Int.reduceNeg, Int.reduceToNat, true_and, and_true, and_self, beq_iff_eq, Bool.and_eq_true, Bool.or_eq_true, or_false, false_or, or_true, true_or, and_false, false_and, hu_q25, hu_q26, hu_q27, hu_q28, q_25, q_26, q_27, q_28, q_nc, not_false_eq_true, Int.reduceEq, Int.pow_zero, Int.reducePow, Int.reduceMul, Int.reduceAdd, Int.reduceDiv, Int.reduceMod, Int.zero_add, Int.add_zero, Int.mul_one, Int.cast_ofNat_Int, ho, r1, e1])
    · refine vg_sound (fun _ _ => false) (fun m => m == 46 || m == 47) 100 _ _ _ _ _ _ ?_
      repeat' first | (with_reducible refine vT ?_ ?_; · omega) | (with_reducible refine vF ?_ ?_; · omega) | (with_reducible refine vI (fun _ => ?_) (fun _ => ?_)) | (simp (config := {maxSteps := 1000000}) (disch := (first | assumption | omega | (rw [hr_at]; assumption) | (rw [hr_at]; omega))) only [f_X4_readOrder, f_X4_mostBehind, wg_0, wg_s, wK_none, wK_N, wK_C, wK_R, wQ_some, wQ_none, stR, mZ, mC, stI, ini, mL, gI, gA, sI, sA, bi, gF, pF, kF, kT, kL, c2, mT, mR, f4, tsw, lsw, tgt, inR, Nat.reduceLT, Nat.reduceLeDiff, Nat.reduceEqDiff, Nat.reduceAdd, Nat.reduceSub, ↓reduceIte, Bool.false_eq_true, List.map_cons, List.map_nil, List.length_cons, List.length_nil, List.replicate, List.cons_append, List.nil_append, List.getElem?_cons_zero, List.getElem?_cons_succ, List.set, List.take_succ_cons, List.take_zero, List.drop_succ_cons, List.drop_zero, List.reverse_cons, List.reverse_nil, Int.reduceLE, Int.reduceLT, Int.reduceNeg, Int.reduceToNat, true_and, and_true, and_self, beq_iff_eq, Bool.and_eq_true, Bool.or_eq_true, or_false, false_or, or_true, true_or, and_false, false_and, hu_q25, hu_q26, hu_q27, hu_q28, q_25, q_26, q_27, q_28, q_nc, not_false_eq_true, Int.reduceEq, Int.pow_zero, Int.reducePow, Int.reduceMul, Int.reduceAdd, Int.reduceDiv, Int.reduceMod, Int.zero_add, Int.add_zero, Int.mul_one, Int.cast_ofNat_Int, ho, r1, e1])
    · refine vg_sound (fun _ _ => false) (fun m => m == 46 || m == 47) 100 _ _ _ _ _ _ ?_
      repeat' first | (with_reducible refine vT ?_ ?_; · omega) | (with_reducible refine vF ?_ ?_; · omega) | (with_reducible refine vI (fun _ => ?_) (fun _ => ?_)) | (simp (config := {maxSteps := 1000000}) (disch := (first | assumption | omega | (rw [hr_at]; assumption) | (rw [hr_at]; omega))) only [f_X4_readOrder, f_X4_mostBehind, wg_0, wg_s, wK_none, wK_N, wK_C, wK_R, wQ_some, wQ_none, stR, mZ, mC, stI, ini, mL, gI, gA, sI, sA, bi, gF, pF, kF, kT, kL, c2, mT, mR, f4, tsw, lsw, tgt, inR, Nat.reduceLT, Nat.reduceLeDiff, Nat.reduceEqDiff, Nat.reduceAdd, Nat.reduceSub, ↓reduceIte, Bool.false_eq_true, List.map_cons, List.map_nil, List.length_cons, List.length_nil, List.replicate, List.cons_append, List.nil_append, List.getElem?_cons_zero, List.getElem?_cons_succ, List.set, List.take_succ_cons, List.take_zero, List.drop_succ_cons, List.drop_zero, List.reverse_cons, List.reverse_nil, Int.reduceLE, Int.reduceLT, Int.reduceNeg, Int.reduceToNat, true_and, and_true, and_self, beq_iff_eq, Bool.and_eq_true, Bool.or_eq_true, or_false, false_or, or_true, true_or, and_false, false_and, hu_q25, hu_q26, hu_q27, hu_q28, q_25, q_26, q_27, q_28, q_nc, not_false_eq_true, Int.reduceEq, Int.pow_zero, Int.reducePow, Int.reduceMul, Int.reduceAdd, Int.reduceDiv, Int.reduceMod, Int.zero_add, Int.add_zero, Int.mul_one, Int.cast_ofNat_Int, ho, r1, e1])
set_option maxHeartbeats 4000000 in
set_option maxRecDepth 100000 in
theorem c_win {S : Hp} {R A B C : Int → Int} {i : Int} (hT : TxC (S 0 29) R) (hi : 0 ≤ i ∧ i < 20) (hl : R 6 < R 0) (ho : S 0 29 (R 6) = 99) : ∃ B' C', (∀ Q : Option MV → Hp → Prop, Wc 46 [.inr (0, 25), .inl i] (hq S R A B C) Q = Q (some (.inl (if ckB (S 0 29) (R 0) (R 6 + 1) 99 then 0 else 1))) (hq S (up R 6 (prs (S 0 29) (R 0) (R 6 + 1) 99).1) (up A i 99) B' C')) ∧ (∀ k : Int, ¬ k = i → B' k = B k ∧ C' k = C k) ∧ (¬ ckB (S 0 29) (R 0) (R 6 + 1) 99 → B' i = (prs (S 0 29) (R 0) (R 6 + 1) 99).2.1 ∧ C' i = (prs (S 0 29) (R 0) (R 6 + 1) 99).2.2) := by
  have h1 := hT.1
  have h2 := hT.2.1
  have ep : prs (S 0 29) (R 0) (R 6 + 1) 99 = prc (S 0 29) (R 0) (R 6 + 1) := by
    unfold prs
    rw [if_neg (by decide), if_neg (by decide), if_neg (by decide)]
  have hT2 := hT.2.2
  unfold ckB
  rw [ep]
  unfold prc
  have r1 := fun A Q => c_num (S := S) (R := R) (A := A) (B := B) (C := C) (a := 0) (b := 2) (p := R 6 + 1) hT (by omega) (by omega) (by omega) Q
  have hb := nuM_b (X := S 0 29) (len := R 0) (p := R 6 + 1) (a := 0) (b := 2) (by omega) (by omega) (by omega)
  generalize nuM (S 0 29) (R 0) (R 6 + 1) 0 2 = N at *
  by_cases c1 : N.1 = -5 ∨ nxP (S 0 29) (R 0) N.2 48 57
  · have hv : (if nxP (S 0 29) (R 0) N.2 48 57 then -5 else N.1) = -5 := by
      by_cases c3 : nxP (S 0 29) (R 0) N.2 48 57
      · rw [if_pos c3]
      · rw [if_neg c3]; exact c1.resolve_right c3
    rw [hv] at r1
    have e1 : up B i (-5) i = -5 := up_eq rfl
    refine ⟨up B i (-5), C, fun Q => ?_, fun k hk => ⟨up_ne hk, rfl⟩, fun q => ?_⟩
    · have hf : (if N.1 = -5 then (N.2, N.1, (-5 : Int)) else if nxP (S 0 29) (R 0) N.2 58 58 then ((nuM (S 0 29) (R 0) (N.2 + 1) 0 599).2, N.1, (nuM (S 0 29) (R 0) (N.2 + 1) 0 599).1) else (N.2, N.1, -5)) = (N.2, N.1, -5) := by
        rcases c1 with g | g
        · rw [if_pos g]
        · by_cases g2 : N.1 = -5
          · rw [if_pos g2]
          · rw [if_neg g2, if_neg (fun q : nxP (S 0 29) (R 0) N.2 58 58 => by have := g.2; have := q.2; omega)]
      rw [hf]
      dsimp only
      rw [if_pos (Or.inr (Or.inl rfl))]
      refine Wc_eq ?_ Q
      unfold Wc
      refine vg_sound (fun _ _ => false) (fun m => m == 46 || m == 48) 100 _ _ _ _ _ _ ?_
      repeat' first | (with_reducible refine vT ?_ ?_; · omega) | (with_reducible refine vF ?_ ?_; · omega) | (with_reducible refine vI (fun _ => ?_) (fun _ => ?_)) | (simp (config := {maxSteps := 1000000}) (disch := (first | assumption | omega | (rw [hr_at]; assumption) | (rw [hr_at]; omega))) only [f_X4_readOrder, f_X4_readWindow, wg_0, wg_s, wK_none, wK_N, wK_C, wK_R, wQ_some, wQ_none, stR, mZ, mC, stI, ini, mL, gI, gA, sI, sA, bi, gF, pF, kF, kT, kL, c2, mT, mR, f4, tsw, lsw, tgt, inR, Nat.reduceLT, Nat.reduceLeDiff, Nat.reduceEqDiff, Nat.reduceAdd, Nat.reduceSub, ↓reduceIte, Bool.false_eq_true, List.map_cons, List.map_nil, List.length_cons, List.length_nil, List.replicate, List.cons_append, List.nil_append, List.getElem?_cons_zero, List.getElem?_cons_succ, List.set, List.take_succ_cons, List.take_zero, List.drop_succ_cons, List.drop_zero, List.reverse_cons, List.reverse_nil, Int.reduceLE, Int.reduceLT, Int.reduceNeg, Int.reduceToNat, true_and, and_true, and_self, beq_iff_eq, Bool.and_eq_true, Bool.or_eq_true, or_false, false_or, or_true, true_or, and_false, false_and, hu_q25, hu_q26, hu_q27, hu_q28, q_25, q_26, q_27, q_28, q_nc, not_false_eq_true, Int.reduceEq, Int.pow_zero, Int.reducePow, Int.reduceMul, Int.reduceAdd, Int.reduceDiv, Int.reduceMod, Int.zero_add, Int.add_zero, Int.mul_one, Int.cast_ofNat_Int, ho, r1, e1])
    · exfalso
      apply q
      rcases c1 with g | g
      · rw [if_pos g]; exact Or.inl g
      · by_cases g2 : N.1 = -5
        · rw [if_pos g2]; exact Or.inl g2
        · rw [if_neg g2, if_neg (fun q : nxP (S 0 29) (R 0) N.2 58 58 => by have := g.2; have := q.2; omega)]; exact Or.inr (Or.inl rfl)
  · have c5 : ¬ N.1 = -5 := fun q => c1 (Or.inl q)
    have c6 : ¬ nxP (S 0 29) (R 0) N.2 48 57 := fun q => c1 (Or.inr q)
    rw [if_neg c6] at r1
    rw [if_neg c5]
    have e1 : up B i N.1 i = N.1 := up_eq rfl
    have h7 : R 0 = R 0 := rfl
    by_cases c7 : nxP (S 0 29) (R 0) N.2 58 58
    · rw [if_pos c7]
      have c8 := c7.1
      have c9 := c7.2
      have r2 := fun A B Q => c_num (S := S) (R := R) (A := A) (B := B) (C := C) (a := 0) (b := 599) (p := N.2 + 1) hT (by omega) (by omega) (by omega) Q
      have hk := nuM_b (X := S 0 29) (len := R 0) (p := N.2 + 1) (a := 0) (b := 599) (by omega) (by omega) (by omega)
      generalize nuM (S 0 29) (R 0) (N.2 + 1) 0 599 = K at *
      obtain ⟨v, hv⟩ : ∃ v, v = (if nxP (S 0 29) (R 0) K.2 48 57 then -5 else K.1) := ⟨_, rfl⟩
      rw [← hv] at r2
      have e2 : up C i v i = v := up_eq rfl
      have e5 : up R 6 N.2 6 = N.2 := up_eq rfl
      have e6 : up R 6 N.2 0 = R 0 := up_ne (by decide)
      dsimp only
      refine ⟨up B i N.1, up C i v, fun Q => ?_, fun k hk => ⟨up_ne hk, up_ne hk⟩, fun q => ⟨e1, ?_⟩⟩
      · refine Wc_eq ?_ Q
        unfold Wc
        by_cases c3 : N.1 = -5 ∨ K.1 = -5 ∨ nxP (S 0 29) (R 0) K.2 48 57
        · rw [if_pos c3]
          have hv5 : v = -5 := by
            rw [hv]
            by_cases c4 : nxP (S 0 29) (R 0) K.2 48 57
            · rw [if_pos c4]
            · rw [if_neg c4]; exact (c3.resolve_left c5).resolve_right c4
          rw [hv5] at r2 e2 ⊢
          refine vg_sound (fun _ _ => false) (fun m => m == 46 || m == 48 || m == 49 || m == 47) 150 _ _ _ _ _ _ ?_
          repeat' first | (with_reducible refine vT ?_ ?_; · omega) | (with_reducible refine vF ?_ ?_; · omega) | (with_reducible refine vI (fun _ => ?_) (fun _ => ?_)) | (simp (config := {maxSteps := 1000000}) (disch := (first | assumption | omega | (rw [hr_at]; assumption) | (rw [hr_at]; omega))) only [f_X4_readOrder, f_X4_readWindow, f_X4_readSign, f_X4_mostBehind, wg_0, wg_s, wK_none, wK_N, wK_C, wK_R, wQ_some, wQ_none, stR, mZ, mC, stI, ini, mL, gI, gA, sI, sA, bi, gF, pF, kF, kT, kL, c2, mT, mR, f4, tsw, lsw, tgt, inR, Nat.reduceLT, Nat.reduceLeDiff, Nat.reduceEqDiff, Nat.reduceAdd, Nat.reduceSub, ↓reduceIte, Bool.false_eq_true, List.map_cons, List.map_nil, List.length_cons, List.length_nil, List.replicate, List.cons_append, List.nil_append, List.getElem?_cons_zero, List.getElem?_cons_succ, List.set, List.take_succ_cons, List.take_zero, List.drop_succ_cons, List.drop_zero, List.reverse_cons, List.reverse_nil, Int.reduceLE, Int.reduceLT, Int.reduceNeg, Int.reduceToNat, true_and, and_true, and_self, beq_iff_eq, Bool.and_eq_true, Bool.or_eq_true, or_false, false_or, or_true, true_or, and_false, false_and, hu_q25, hu_q26, hu_q27, hu_q28, q_25, q_26, q_27, q_28, q_nc, not_false_eq_true, Int.reduceEq, Int.pow_zero, Int.reducePow, Int.reduceMul, Int.reduceAdd, Int.reduceDiv, Int.reduceMod, Int.zero_add, Int.add_zero, Int.mul_one, Int.cast_ofNat_Int, ho, r1, e1, e5, e6, up_up, r2, e2])
        · rw [if_neg c3]
          have c4 : ¬ nxP (S 0 29) (R 0) K.2 48 57 := fun q => c3 (Or.inr (Or.inr q))
          rw [if_neg c4] at hv
          have c4' : ¬ K.1 = -5 := fun q => c3 (Or.inr (Or.inl q))
          refine vg_sound (fun _ _ => false) (fun m => m == 46 || m == 48 || m == 49 || m == 47) 150 _ _ _ _ _ _ ?_
          repeat' first | (with_reducible refine vT ?_ ?_; · omega) | (with_reducible refine vF ?_ ?_; · omega) | (with_reducible refine vI (fun _ => ?_) (fun _ => ?_)) | (simp (config := {maxSteps := 1000000}) (disch := (first | assumption | omega | (rw [hr_at]; assumption) | (rw [hr_at]; omega))) only [f_X4_readOrder, f_X4_readWindow, f_X4_readSign, f_X4_mostBehind, wg_0, wg_s, wK_none, wK_N, wK_C, wK_R, wQ_some, wQ_none, stR, mZ, mC, stI, ini, mL, gI, gA, sI, sA, bi, gF, pF, kF, kT, kL, c2, mT, mR, f4, tsw, lsw, tgt, inR, Nat.reduceLT, Nat.reduceLeDiff, Nat.reduceEqDiff, Nat.reduceAdd, Nat.reduceSub, ↓reduceIte, Bool.false_eq_true, List.map_cons, List.map_nil, List.length_cons, List.length_nil, List.replicate, List.cons_append, List.nil_append, List.getElem?_cons_zero, List.getElem?_cons_succ, List.set, List.take_succ_cons, List.take_zero, List.drop_succ_cons, List.drop_zero, List.reverse_cons, List.reverse_nil, Int.reduceLE, Int.reduceLT, Int.reduceNeg, Int.reduceToNat, true_and, and_true, and_self, beq_iff_eq, Bool.and_eq_true, Bool.or_eq_true, or_false, false_or, or_true, true_or, and_false, false_and, hu_q25, hu_q26, hu_q27, hu_q28, q_25, q_26, q_27, q_28, q_nc, not_false_eq_true, Int.reduceEq, Int.pow_zero, Int.reducePow, Int.reduceMul, Int.reduceAdd, Int.reduceDiv, Int.reduceMod, Int.zero_add, Int.add_zero, Int.mul_one, Int.cast_ofNat_Int, ho, r1, e1, e5, e6, up_up, r2, e2])
      · rw [e2, hv, if_neg (fun q2 => q (Or.inr (Or.inr q2)))]
    · rw [if_neg c7]
      dsimp only
      have e5 : up R 6 N.2 6 = N.2 := up_eq rfl
      have e6 : up R 6 N.2 0 = R 0 := up_ne (by decide)
      refine ⟨up B i N.1, C, fun Q => ?_, fun k hk => ⟨up_ne hk, rfl⟩, fun q => absurd (Or.inr (Or.inl rfl)) q⟩
      rw [if_pos (Or.inr (Or.inl rfl))]
      refine Wc_eq ?_ Q
      unfold Wc
      by_cases c8 : N.2 < R 0
      · have hx := hT2 N.2 (by omega) (by omega)
        have c9 : ¬ S 0 29 N.2 = 58 := fun q => c7 ⟨c8, by omega, by omega⟩
        refine vg_sound (fun _ _ => false) (fun m => m == 46 || m == 48 || m == 49) 100 _ _ _ _ _ _ ?_
        repeat' first | (with_reducible refine vT ?_ ?_; · omega) | (with_reducible refine vF ?_ ?_; · omega) | (with_reducible refine vI (fun _ => ?_) (fun _ => ?_)) | (simp (config := {maxSteps := 1000000}) (disch := (first | assumption | omega | (rw [hr_at]; assumption) | (rw [hr_at]; omega))) only [f_X4_readOrder, f_X4_readWindow, f_X4_readSign, wg_0, wg_s, wK_none, wK_N, wK_C, wK_R, wQ_some, wQ_none, stR, mZ, mC, stI, ini, mL, gI, gA, sI, sA, bi, gF, pF, kF, kT, kL, c2, mT, mR, f4, tsw, lsw, tgt, inR, Nat.reduceLT, Nat.reduceLeDiff, Nat.reduceEqDiff, Nat.reduceAdd, Nat.reduceSub, ↓reduceIte, Bool.false_eq_true, List.map_cons, List.map_nil, List.length_cons, List.length_nil, List.replicate, List.cons_append, List.nil_append, List.getElem?_cons_zero, List.getElem?_cons_succ, List.set, List.take_succ_cons, List.take_zero, List.drop_succ_cons, List.drop_zero, List.reverse_cons, List.reverse_nil, Int.reduceLE, Int.reduceLT, Int.reduceNeg, Int.reduceToNat, true_and, and_true, and_self, beq_iff_eq, Bool.and_eq_true, Bool.or_eq_true, or_false, false_or, or_true, true_or, and_false, false_and, hu_q25, hu_q26, hu_q27, hu_q28, q_25, q_26, q_27, q_28, q_nc, not_false_eq_true, Int.reduceEq, Int.pow_zero, Int.reducePow, Int.reduceMul, Int.reduceAdd, Int.reduceDiv, Int.reduceMod, Int.zero_add, Int.add_zero, Int.mul_one, Int.cast_ofNat_Int, ho, r1, e1, e5, e6])
      · refine vg_sound (fun _ _ => false) (fun m => m == 46 || m == 48 || m == 49) 100 _ _ _ _ _ _ ?_
        repeat' first | (with_reducible refine vT ?_ ?_; · omega) | (with_reducible refine vF ?_ ?_; · omega) | (with_reducible refine vI (fun _ => ?_) (fun _ => ?_)) | (simp (config := {maxSteps := 1000000}) (disch := (first | assumption | omega | (rw [hr_at]; assumption) | (rw [hr_at]; omega))) only [f_X4_readOrder, f_X4_readWindow, f_X4_readSign, wg_0, wg_s, wK_none, wK_N, wK_C, wK_R, wQ_some, wQ_none, stR, mZ, mC, stI, ini, mL, gI, gA, sI, sA, bi, gF, pF, kF, kT, kL, c2, mT, mR, f4, tsw, lsw, tgt, inR, Nat.reduceLT, Nat.reduceLeDiff, Nat.reduceEqDiff, Nat.reduceAdd, Nat.reduceSub, ↓reduceIte, Bool.false_eq_true, List.map_cons, List.map_nil, List.length_cons, List.length_nil, List.replicate, List.cons_append, List.nil_append, List.getElem?_cons_zero, List.getElem?_cons_succ, List.set, List.take_succ_cons, List.take_zero, List.drop_succ_cons, List.drop_zero, List.reverse_cons, List.reverse_nil, Int.reduceLE, Int.reduceLT, Int.reduceNeg, Int.reduceToNat, true_and, and_true, and_self, beq_iff_eq, Bool.and_eq_true, Bool.or_eq_true, or_false, false_or, or_true, true_or, and_false, false_and, hu_q25, hu_q26, hu_q27, hu_q28, q_25, q_26, q_27, q_28, q_nc, not_false_eq_true, Int.reduceEq, Int.pow_zero, Int.reducePow, Int.reduceMul, Int.reduceAdd, Int.reduceDiv, Int.reduceMod, Int.zero_add, Int.add_zero, Int.mul_one, Int.cast_ofNat_Int, ho, r1, e1, e5, e6])
