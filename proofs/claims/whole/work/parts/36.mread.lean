/-! THE REFERENCE: orders are read -/
set_option maxHeartbeats 4000000 in
set_option maxRecDepth 100000 in
theorem nuL_b {X : Int → Int} {len b : Int} (hb : 0 ≤ b ∧ b < 1000) : ∀ (n : Nat) (v p : Int), 0 ≤ v ∧ v < 1000 → p ≤ len → (0 ≤ (nuL X len b n v p).1 ∧ (nuL X len b n v p).1 < 1000) ∧ p ≤ (nuL X len b n v p).2 ∧ (nuL X len b n v p).2 ≤ len
  | 0, v, p, hv, hp => ⟨hv, Int.le_refl _, hp⟩
  | n + 1, v, p, hv, hp => by
    unfold nuL
    split
    · next h =>
      have h1 := h.2.1.1
      have h2 := h.2.1.2.1
      have h3 := h.2.2
      have i := nuL_b (X := X) (len := len) hb n (10 * v + X p - 48) (p + 1) (by omega) (by omega)
      omega
    · exact ⟨hv, Int.le_refl _, hp⟩
set_option maxHeartbeats 4000000 in
set_option maxRecDepth 100000 in
theorem nuM_b {X : Int → Int} {len p a b : Int} (ha : 0 ≤ a) (hb : 0 ≤ b ∧ b < 1000) (hp : p ≤ len) : (((nuM X len p a b).1 = -5 ∧ (nuM X len p a b).2 = p) ∨ (0 ≤ (nuM X len p a b).1 ∧ (nuM X len p a b).1 < 1000 ∧ p < (nuM X len p a b).2)) ∧ p ≤ (nuM X len p a b).2 ∧ (nuM X len p a b).2 ≤ len := by
  unfold nuM
  by_cases h : nxP X len p (48 + a) (if b < 9 then 48 + b else 57)
  · rw [if_pos h]
    have h1 := h.1
    have h2 := h.2.1
    have h3 := h.2.2
    have h4 : X p ≤ 57 := by split at h3 <;> omega
    have i := nuL_b (X := X) (len := len) hb 60 (X p - 48) (p + 1) (by omega) (by omega)
    omega
  · rw [if_neg h]
    exact ⟨Or.inl ⟨rfl, rfl⟩, Int.le_refl _, hp⟩
def ordO (X R : Int → Int) : Int := if R 5 < R 7 then X (R 5) else 0
/- place, first and second behind the order's sign -/
def prc (X : Int → Int) (len p : Int) : Int × Int × Int :=
  if (nuM X len p 0 2).1 = -5 then ((nuM X len p 0 2).2, (nuM X len p 0 2).1, -5)
  else if nxP X len (nuM X len p 0 2).2 58 58 then ((nuM X len ((nuM X len p 0 2).2 + 1) 0 599).2, (nuM X len p 0 2).1, (nuM X len ((nuM X len p 0 2).2 + 1) 0 599).1)
  else ((nuM X len p 0 2).2, (nuM X len p 0 2).1, -5)
def prs (X : Int → Int) (len p o : Int) : Int × Int × Int :=
  if o = 115 then ((nuM X len p 0 599).2, (nuM X len p 0 599).1, 0)
  else if o = 100 then ((nuM X len p 0 5).2, (nuM X len p 0 5).1, 0)
  else if o = 116 then ((nuM X len p 1 99).2, (nuM X len p 1 99).1, 0)
  else prc X len p
abbrev okO (o : Int) : Prop := o = 115 ∨ o = 99 ∨ o = 100 ∨ o = 116
def roR (X R : Int → Int) : Int → Int := if okO (ordO X R) then up (up (up (up R 9 (ordO X R)) 5 (prs X (R 7) (R 5 + 1) (ordO X R)).1) 11 (prs X (R 7) (R 5 + 1) (ordO X R)).2.2) 10 (prs X (R 7) (R 5 + 1) (ordO X R)).2.1 else up R 9 (ordO X R)
def roV (X R : Int → Int) : Int := if okO (ordO X R) then (if (prs X (R 7) (R 5 + 1) (ordO X R)).2.1 = -5 then 0 else if (prs X (R 7) (R 5 + 1) (ordO X R)).2.2 = -5 then 0 else 1) else 0
set_option maxHeartbeats 4000000 in
set_option maxRecDepth 100000 in
theorem ro_arr1 {R : Int → Int} {o p q f : Int} : up (up (up (up (up R 9 o) 5 p) 11 0) 5 q) 10 f = up (up (up (up R 9 o) 5 q) 11 0) 10 f := by
  funext j
  unfold up
  repeat' split
  all_goals (first | rfl | omega)
set_option maxHeartbeats 4000000 in
set_option maxRecDepth 100000 in
theorem TxP_o {X R : Int → Int} {o p s : Int} (h : TxP X R) (hp : 0 ≤ p ∧ p ≤ R 7) : TxP X (up (up (up R 9 o) 5 p) 11 s) := by
  obtain ⟨h1, h2, h3⟩ := h
  refine ⟨?_, ?_, h3⟩
  · simp only [up_ap, Int.reduceEq, ↓reduceIte]; exact hp
  · simp only [up_ap, Int.reduceEq, ↓reduceIte]; exact h2
set_option maxHeartbeats 4000000 in
set_option maxRecDepth 100000 in
theorem ro_num {S : Hp} {o a b : Int} (hT : TxP (S 0 35) (S 0 30)) (hl : S 0 30 5 < S 0 30 7) (ha : 0 ≤ a ∧ a ≤ 1) (hb : 0 ≤ b ∧ b < 1000) (Q : Option MV → Hp → Prop) : Wc 166 [.inr (0, 30), .inl a, .inl b] (hr S 0 30 (up (up (up (S 0 30) 9 o) 5 (S 0 30 5 + 1)) 11 0)) Q = Q (some (.inl (nuM (S 0 35) (S 0 30 7) (S 0 30 5 + 1) a b).1)) (hr S 0 30 (up (up (up (up (S 0 30) 9 o) 5 (S 0 30 5 + 1)) 11 0) 5 (nuM (S 0 35) (S 0 30 7) (S 0 30 5 + 1) a b).2)) := by
  have h1 := hT.1
  have r := m_number (S := hr S 0 30 (up (up (up (S 0 30) 9 o) 5 (S 0 30 5 + 1)) 11 0)) (a := a) (b := b) (by
    rw [hr_nc (by decide), hr_at]
    exact TxP_o hT (by omega)) ha hb Q
  rw [hr_nc (by decide), hr_at, hr_hr] at r
  simp only [up_ap (up (up (S 0 30) 9 o) 5 (S 0 30 5 + 1)) 11 0, up_ap (up (S 0 30) 9 o) 5 (S 0 30 5 + 1), up_ap (S 0 30) 9 o, Int.reduceEq, ↓reduceIte] at r
  exact r
set_option maxHeartbeats 4000000 in
set_option maxRecDepth 100000 in
theorem ro_one {S : Hp} {o a b : Int} (hT : TxP (S 0 35) (S 0 30)) (hl : S 0 30 5 < S 0 30 7) (ho : S 0 35 (S 0 30 5) = o) (ho2 : (o = 115 ∧ a = 0 ∧ b = 599) ∨ (o = 100 ∧ a = 0 ∧ b = 5) ∨ (o = 116 ∧ a = 1 ∧ b = 99)) (Q : Option MV → Hp → Prop) : Wc 167 [.inr (0, 30)] S Q = Q (some (.inl (if (nuM (S 0 35) (S 0 30 7) (S 0 30 5 + 1) a b).1 = -5 then 0 else 1))) (hr S 0 30 (up (up (up (up (S 0 30) 9 o) 5 (nuM (S 0 35) (S 0 30 7) (S 0 30 5 + 1) a b).2) 11 0) 10 (nuM (S 0 35) (S 0 30 7) (S 0 30 5 + 1) a b).1)) := by
  have r1 := fun Q => ro_num (o := o) hT hl (a := a) (b := b) (by omega) (by omega) Q
  have hb := nuM_b (X := S 0 35) (len := S 0 30 7) (p := S 0 30 5 + 1) (a := a) (b := b) (by omega) (by omega) (by omega)
  have h1 := hT.1
  have h2 := hT.2.1
  generalize nuM (S 0 35) (S 0 30 7) (S 0 30 5 + 1) a b = N at *
  refine Wc_eq ?_ Q
  unfold Wc
  rw [← ro_arr1 (p := S 0 30 5 + 1)]
  rcases ho2 with ⟨rfl, rfl, rfl⟩ | ⟨rfl, rfl, rfl⟩ | ⟨rfl, rfl, rfl⟩
  · by_cases h5 : N.1 = -5
    · rw [if_pos h5]
      refine vg_sound (fun _ _ => false) (fun m => m == 167) 100 _ _ _ _ _ _ ?_
      repeat' first | (with_reducible refine vT ?_ ?_; · omega) | (with_reducible refine vF ?_ ?_; · omega) | (with_reducible refine vI (fun _ => ?_) (fun _ => ?_)) | (simp (config := {maxSteps := 1000000}) (disch := (first | assumption | omega | (rw [hr_at]; assumption) | (rw [hr_at]; omega))) only [f_X8_readOrder, wg_0, wg_s, wK_none, wK_N, wK_C, wK_R, wQ_some, wQ_none, stR, mZ, mC, stI, ini, mL, gI, gA, sI, sA, bi, gF, pF, kF, kT, kL, c2, mT, mR, f4, tsw, lsw, tgt, inR, Nat.reduceLT, Nat.reduceLeDiff, Nat.reduceEqDiff, Nat.reduceAdd, Nat.reduceSub, ↓reduceIte, Bool.false_eq_true, List.map_cons, List.map_nil, List.length_cons, List.length_nil, List.replicate, List.cons_append, List.nil_append, List.getElem?_cons_zero, List.getElem?_cons_succ, List.set, List.take_succ_cons, List.take_zero, List.drop_succ_cons, List.drop_zero, List.reverse_cons, List.reverse_nil, Int.reduceLE, Int.reduceLT, Int.reduceNeg, Int.reduceToNat, true_and, and_true, and_self, beq_iff_eq, Bool.and_eq_true, Bool.or_eq_true, or_false, false_or, or_true, true_or, and_false, false_and, hu_hr, hr_hr, hr_at, hr_nc, not_false_eq_true, Int.reduceEq, Int.pow_zero, Int.reducePow, Int.reduceMul, Int.reduceAdd, Int.reduceDiv, Int.reduceMod, Int.zero_add, Int.add_zero, Int.mul_one, Int.cast_ofNat_Int, up_ap, r1, ho, h5])
    · rw [if_neg h5]
      refine vg_sound (fun _ _ => false) (fun m => m == 167) 100 _ _ _ _ _ _ ?_
      repeat' first | (with_reducible refine vT ?_ ?_; · omega) | (with_reducible refine vF ?_ ?_; · omega) | (with_reducible refine vI (fun _ => ?_) (fun _ => ?_)) | (simp (config := {maxSteps := 1000000}) (disch := (first | assumption | omega | (rw [hr_at]; assumption) | (rw [hr_at]; omega))) only [f_X8_readOrder, wg_0, wg_s, wK_none, wK_N, wK_C, wK_R, wQ_some, wQ_none, stR, mZ, mC, stI, ini, mL, gI, gA, sI, sA, bi, gF, pF, kF, kT, kL, c2, mT, mR, f4, tsw, lsw, tgt, inR, Nat.reduceLT, Nat.reduceLeDiff, Nat.reduceEqDiff, Nat.reduceAdd, Nat.reduceSub, ↓reduceIte, Bool.false_eq_true, List.map_cons, List.map_nil, List.length_cons, List.length_nil, List.replicate, List.cons_append, List.nil_append, List.getElem?_cons_zero, List.getElem?_cons_succ, List.set, List.take_succ_cons, List.take_zero, List.drop_succ_cons, List.drop_zero, List.reverse_cons, List.reverse_nil, Int.reduceLE, Int.reduceLT, Int.reduceNeg, Int.reduceToNat, true_and, and_true, and_self, beq_iff_eq, Bool.and_eq_true, Bool.or_eq_true, or_false, false_or, or_true, true_or, and_false, false_and, hu_hr, hr_hr, hr_at, hr_nc, not_false_eq_true, Int.reduceEq, Int.pow_zero, Int.reducePow, Int.reduceMul, Int.reduceAdd, Int.reduceDiv, Int.reduceMod, Int.zero_add, Int.add_zero, Int.mul_one, Int.cast_ofNat_Int, up_ap, r1, ho])
  · by_cases h5 : N.1 = -5
    · rw [if_pos h5]
      refine vg_sound (fun _ _ => false) (fun m => m == 167) 100 _ _ _ _ _ _ ?_
      repeat' first | (with_reducible refine vT ?_ ?_; · omega) | (with_reducible refine vF ?_ ?_; · omega) | (with_reducible refine vI (fun _ => ?_) (fun _ => ?_)) | (simp (config := {maxSteps := 1000000}) (disch := (first | assumption | omega | (rw [hr_at]; assumption) | (rw [hr_at]; omega))) only [f_X8_readOrder, wg_0, wg_s, wK_none, wK_N, wK_C, wK_R, wQ_some, wQ_none, stR, mZ, mC, stI, ini, mL, gI, gA, sI, sA, bi, gF, pF, kF, kT, kL, c2, mT, mR, f4, tsw, lsw, tgt, inR, Nat.reduceLT, Nat.reduceLeDiff, Nat.reduceEqDiff, Nat.reduceAdd, Nat.reduceSub, ↓reduceIte, Bool.false_eq_true, List.map_cons, List.map_nil, List.length_cons, List.length_nil, List.replicate, List.cons_append, List.nil_append, List.getElem?_cons_zero, List.getElem?_cons_succ, List.set, List.take_succ_cons, List.take_zero, List.drop_succ_cons, List.drop_zero, List.reverse_cons, List.reverse_nil, Int.reduceLE, Int.reduceLT, Int.reduceNeg, Int.reduceToNat, true_and, and_true, and_self, beq_iff_eq, Bool.and_eq_true, Bool.or_eq_true, or_false, false_or, or_true, true_or, and_false, false_and, hu_hr, hr_hr, hr_at, hr_nc, not_false_eq_true, Int.reduceEq, Int.pow_zero, Int.reducePow, Int.reduceMul, Int.reduceAdd, Int.reduceDiv, Int.reduceMod, Int.zero_add, Int.add_zero, Int.mul_one, Int.cast_ofNat_Int, up_ap, r1, ho, h5])
    · rw [if_neg h5]
      refine vg_sound (fun _ _ => false) (fun m => m == 167) 100 _ _ _ _ _ _ ?_
      repeat' first | (with_reducible refine vT ?_ ?_; · omega) | (with_reducible refine vF ?_ ?_; · omega) | (with_reducible refine vI (fun _ => ?_) (fun _ => ?_)) | (simp (config := {maxSteps := 1000000}) (disch := (first | assumption | omega | (rw [hr_at]; assumption) | (rw [hr_at]; omega))) only [f_X8_readOrder, wg_0, wg_s, wK_none, wK_N, wK_C, wK_R, wQ_some, wQ_none, stR, mZ, mC, stI, ini, mL, gI, gA, sI, sA, bi, gF, pF, kF, kT, kL, c2, mT, mR, f4, tsw, lsw, tgt, inR, Nat.reduceLT, Nat.reduceLeDiff, Nat.reduceEqDiff, Nat.reduceAdd, Nat.reduceSub, ↓reduceIte, Bool.false_eq_true, List.map_cons, List.map_nil, List.length_cons, List.length_nil, List.replicate, List.cons_append, List.nil_append, List.getElem?_cons_zero, List.getElem?_cons_succ, List.set, List.take_succ_cons, List.take_zero, List.drop_succ_cons, List.drop_zero, List.reverse_cons, List.reverse_nil, Int.reduceLE, Int.reduceLT, Int.reduceNeg, Int.reduceToNat, true_and, and_true, and_self, beq_iff_eq, Bool.and_eq_true, Bool.or_eq_true, or_false, false_or, or_true, true_or, and_false, false_and, hu_hr, hr_hr, hr_at, hr_nc, not_false_eq_true, Int.reduceEq, Int.pow_zero, Int.reducePow, Int.reduceMul, Int.reduceAdd, Int.reduceDiv, Int.reduceMod, Int.zero_add, Int.add_zero, Int.mul_one, Int.cast_ofNat_Int, up_ap, r1, ho])
  · by_cases h5 : N.1 = -5
    · rw [if_pos h5]
      refine vg_sound (fun _ _ => false) (fun m => m == 167) 100 _ _ _ _ _ _ ?_
      repeat' first | (with_reducible refine vT ?_ ?_; · omega) | (with_reducible refine vF ?_ ?_; · omega) | (with_reducible refine vI (fun _ => ?_) (fun _ => ?_)) | (simp (config := {maxSteps := 1000000}) (disch := (first | assumption | omega | (rw [hr_at]; assumption) | (rw [hr_at]; omega))) only [f_X8_readOrder, wg_0, wg_s, wK_none, wK_N, wK_C, wK_R, wQ_some, wQ_none, stR, mZ, mC, stI, ini, mL, gI, gA, sI, sA, bi, gF, pF, kF, kT, kL, c2, mT, mR, f4, tsw, lsw, tgt, inR, Nat.reduceLT, Nat.reduceLeDiff, Nat.reduceEqDiff, Nat.reduceAdd, Nat.reduceSub, ↓reduceIte, Bool.false_eq_true, List.map_cons, List.map_nil, List.length_cons, List.length_nil, List.replicate, List.cons_append, List.nil_append, List.getElem?_cons_zero, List.getElem?_cons_succ, List.set, List.take_succ_cons, List.take_zero, List.drop_succ_cons, List.drop_zero, List.reverse_cons, List.reverse_nil, Int.reduceLE, Int.reduceLT, Int.reduceNeg, Int.reduceToNat, true_and, and_true, and_self, beq_iff_eq, Bool.and_eq_true, Bool.or_eq_true, or_false, false_or, or_true, true_or, and_false, false_and, hu_hr, hr_hr, hr_at, hr_nc, not_false_eq_true, Int.reduceEq, Int.pow_zero, Int.reducePow, Int.reduceMul, Int.reduceAdd, Int.reduceDiv, Int.reduceMod, Int.zero_add, Int.add_zero, Int.mul_one, Int.cast_ofNat_Int, up_ap, r1, ho, h5])
    · rw [if_neg h5]
      refine vg_sound (fun _ _ => false) (fun m => m == 167) 100 _ _ _ _ _ _ ?_
      repeat' first | (with_reducible refine vT ?_ ?_; · omega) | (with_reducible refine vF ?_ ?_; · omega) | (with_reducible refine vI (fun _ => ?_) (fun _ => ?_)) | (simp (config := {maxSteps := 1000000}) (disch := (first | assumption | omega | (rw [hr_at]; assumption) | (rw [hr_at]; omega))) only [f_X8_readOrder, wg_0, wg_s, wK_none, wK_N, wK_C, wK_R, wQ_some, wQ_none, stR, mZ, mC, stI, ini, mL, gI, gA, sI, sA, bi, gF, pF, kF, kT, kL, c2, mT, mR, f4, tsw, lsw, tgt, inR, Nat.reduceLT, Nat.reduceLeDiff, Nat.reduceEqDiff, Nat.reduceAdd, Nat.reduceSub, ↓reduceIte, Bool.false_eq_true, List.map_cons, List.map_nil, List.length_cons, List.length_nil, List.replicate, List.cons_append, List.nil_append, List.getElem?_cons_zero, List.getElem?_cons_succ, List.set, List.take_succ_cons, List.take_zero, List.drop_succ_cons, List.drop_zero, List.reverse_cons, List.reverse_nil, Int.reduceLE, Int.reduceLT, Int.reduceNeg, Int.reduceToNat, true_and, and_true, and_self, beq_iff_eq, Bool.and_eq_true, Bool.or_eq_true, or_false, false_or, or_true, true_or, and_false, false_and, hu_hr, hr_hr, hr_at, hr_nc, not_false_eq_true, Int.reduceEq, Int.pow_zero, Int.reducePow, Int.reduceMul, Int.reduceAdd, Int.reduceDiv, Int.reduceMod, Int.zero_add, Int.add_zero, Int.mul_one, Int.cast_ofNat_Int, up_ap, r1, ho])
set_option maxHeartbeats 4000000 in
set_option maxRecDepth 100000 in
theorem ro_no {S : Hp} (hT : TxP (S 0 35) (S 0 30)) (ho : ¬ okO (ordO (S 0 35) (S 0 30))) (Q : Option MV → Hp → Prop) : Wc 167 [.inr (0, 30)] S Q = Q (some (.inl 0)) (hr S 0 30 (up (S 0 30) 9 (ordO (S 0 35) (S 0 30)))) := by
  refine Wc_eq ?_ Q
  unfold Wc
  obtain ⟨h1, h2, h3⟩ := hT
  unfold ordO at ho ⊢
  by_cases h : S 0 30 5 < S 0 30 7
  · rw [if_pos h] at ho ⊢
    have hx := h3 (S 0 30 5) (by omega) (by omega)
    refine vg_sound (fun _ _ => false) (fun m => m == 167) 60 _ _ _ _ _ _ ?_
    repeat' first | (with_reducible refine vT ?_ ?_; · omega) | (with_reducible refine vF ?_ ?_; · omega) | (with_reducible refine vI (fun _ => ?_) (fun _ => ?_)) | (simp (config := {maxSteps := 1000000}) (disch := (first | assumption | omega | (rw [hr_at]; assumption) | (rw [hr_at]; omega))) only [f_X8_readOrder, wg_0, wg_s, wK_none, wK_N, wK_C, wK_R, wQ_some, wQ_none, stR, mZ, mC, stI, ini, mL, gI, gA, sI, sA, bi, gF, pF, kF, kT, kL, c2, mT, mR, f4, tsw, lsw, tgt, inR, Nat.reduceLT, Nat.reduceLeDiff, Nat.reduceEqDiff, Nat.reduceAdd, Nat.reduceSub, ↓reduceIte, Bool.false_eq_true, List.map_cons, List.map_nil, List.length_cons, List.length_nil, List.replicate, List.cons_append, List.nil_append, List.getElem?_cons_zero, List.getElem?_cons_succ, List.set, List.take_succ_cons, List.take_zero, List.drop_succ_cons, List.drop_zero, List.reverse_cons, List.reverse_nil, Int.reduceLE, Int.reduceLT, Int.reduceNeg, Int.reduceToNat, true_and, and_true, and_self, beq_iff_eq, Bool.and_eq_true, Bool.or_eq_true, or_false, false_or, or_true, true_or, and_false, false_and, hu_hr, hr_hr, hr_at, hr_nc, not_false_eq_true, Int.reduceEq, Int.pow_zero, Int.reducePow, Int.reduceMul, Int.reduceAdd, Int.reduceDiv, Int.reduceMod, Int.zero_add, Int.add_zero, Int.mul_one, Int.cast_ofNat_Int, up_ap])
  · rw [if_neg h] at ho ⊢
    refine vg_sound (fun _ _ => false) (fun m => m == 167) 60 _ _ _ _ _ _ ?_
    repeat' first | (with_reducible refine vT ?_ ?_; · omega) | (with_reducible refine vF ?_ ?_; · omega) | (with_reducible refine vI (fun _ => ?_) (fun _ => ?_)) | (simp (config := {maxSteps := 1000000}) (disch := (first | assumption | omega | (rw [hr_at]; assumption) | (rw [hr_at]; omega))) only [f_X8_readOrder, wg_0, wg_s, wK_none, wK_N, wK_C, wK_R, wQ_some, wQ_none, stR, mZ, mC, stI, ini, mL, gI, gA, sI, sA, bi, gF, pF, kF, kT, kL, c2, mT, mR, f4, tsw, lsw, tgt, inR, Nat.reduceLT, Nat.reduceLeDiff, Nat.reduceEqDiff, Nat.reduceAdd, Nat.reduceSub, ↓reduceIte, Bool.false_eq_true, List.map_cons, List.map_nil, List.length_cons, List.length_nil, List.replicate, List.cons_append, List.nil_append, List.getElem?_cons_zero, List.getElem?_cons_succ, List.set, List.take_succ_cons, List.take_zero, List.drop_succ_cons, List.drop_zero, List.reverse_cons, List.reverse_nil, Int.reduceLE, Int.reduceLT, Int.reduceNeg, Int.reduceToNat, true_and, and_true, and_self, beq_iff_eq, Bool.and_eq_true, Bool.or_eq_true, or_false, false_or, or_true, true_or, and_false, false_and, hu_hr, hr_hr, hr_at, hr_nc, not_false_eq_true, Int.reduceEq, Int.pow_zero, Int.reducePow, Int.reduceMul, Int.reduceAdd, Int.reduceDiv, Int.reduceMod, Int.zero_add, Int.add_zero, Int.mul_one, Int.cast_ofNat_Int, up_ap])
set_option maxHeartbeats 4000000 in
set_option maxRecDepth 100000 in
theorem ro_arr2 {R : Int → Int} {o p q q2 f s : Int} : up (up (up (up (up (up (up R 9 o) 5 p) 11 0) 5 q) 10 f) 5 q2) 11 s = up (up (up (up R 9 o) 5 q2) 11 s) 10 f := by
  funext j
  unfold up
  repeat' split
  all_goals (first | rfl | omega)
set_option maxHeartbeats 4000000 in
set_option maxRecDepth 100000 in
theorem ro_arr3 {R : Int → Int} {o p q f s : Int} : up (up (up (up (up (up R 9 o) 5 p) 11 0) 5 q) 10 f) 11 s = up (up (up (up R 9 o) 5 q) 11 s) 10 f := by
  funext j
  unfold up
  repeat' split
  all_goals (first | rfl | omega)
set_option maxHeartbeats 4000000 in
set_option maxRecDepth 100000 in
theorem ro_sgn {S : Hp} {o p q f : Int} (hT : TxP (S 0 35) (S 0 30)) (hq : 0 ≤ q ∧ q ≤ S 0 30 7) (Q : Option MV → Hp → Prop) : Wc 165 [.inr (0, 30), .inl 58] (hr S 0 30 (up (up (up (up (up (S 0 30) 9 o) 5 p) 11 0) 5 q) 10 f)) Q = Q (some (.inl (if nxP (S 0 35) (S 0 30 7) q 58 58 then 1 else 0))) (hr S 0 30 (up (up (up (up (up (up (S 0 30) 9 o) 5 p) 11 0) 5 q) 10 f) 5 (q + if nxP (S 0 35) (S 0 30 7) q 58 58 then 1 else 0))) := by
  have e5 : up (up (up (up (up (S 0 30) 9 o) 5 p) 11 0) 5 q) 10 f 5 = q := by simp only [up_ap, Int.reduceEq, ↓reduceIte]
  have e7 : up (up (up (up (up (S 0 30) 9 o) 5 p) 11 0) 5 q) 10 f 7 = S 0 30 7 := by simp only [up_ap, Int.reduceEq, ↓reduceIte]
  have r := m_sign (S := hr S 0 30 (up (up (up (up (up (S 0 30) 9 o) 5 p) 11 0) 5 q) 10 f)) (a := 58) (by
    rw [hr_nc (by decide), hr_at]
    exact ⟨by rw [e5, e7]; exact hq, by rw [e7]; exact hT.2.1, hT.2.2⟩) (by omega) Q
  rw [hr_nc (by decide), hr_at, hr_hr, e5, e7] at r
  exact r
set_option maxHeartbeats 4000000 in
set_option maxRecDepth 100000 in
theorem ro_num2 {S : Hp} {o p q q2 f : Int} (hT : TxP (S 0 35) (S 0 30)) (hq : 0 ≤ q2 ∧ q2 ≤ S 0 30 7) (Q : Option MV → Hp → Prop) : Wc 166 [.inr (0, 30), .inl 0, .inl 599] (hr S 0 30 (up (up (up (up (up (up (S 0 30) 9 o) 5 p) 11 0) 5 q) 10 f) 5 q2)) Q = Q (some (.inl (nuM (S 0 35) (S 0 30 7) q2 0 599).1)) (hr S 0 30 (up (up (up (up (up (up (S 0 30) 9 o) 5 p) 11 0) 5 q) 10 f) 5 (nuM (S 0 35) (S 0 30 7) q2 0 599).2)) := by
  have e5 : up (up (up (up (up (up (S 0 30) 9 o) 5 p) 11 0) 5 q) 10 f) 5 q2 5 = q2 := by simp only [up_ap, Int.reduceEq, ↓reduceIte]
  have e7 : up (up (up (up (up (up (S 0 30) 9 o) 5 p) 11 0) 5 q) 10 f) 5 q2 7 = S 0 30 7 := by simp only [up_ap, Int.reduceEq, ↓reduceIte]
  have r := m_number (S := hr S 0 30 (up (up (up (up (up (up (S 0 30) 9 o) 5 p) 11 0) 5 q) 10 f) 5 q2)) (a := 0) (b := 599) (by
    rw [hr_nc (by decide), hr_at]
    exact ⟨by rw [e5, e7]; exact hq, by rw [e7]; exact hT.2.1, hT.2.2⟩) (by omega) (by omega) Q
  rw [hr_nc (by decide), hr_at, hr_hr, e5, e7, up_up] at r
  exact r
set_option maxHeartbeats 4000000 in
set_option maxRecDepth 100000 in
theorem ro_c {S : Hp} (hT : TxP (S 0 35) (S 0 30)) (hl : S 0 30 5 < S 0 30 7) (ho : S 0 35 (S 0 30 5) = 99) (Q : Option MV → Hp → Prop) : Wc 167 [.inr (0, 30)] S Q = Q (some (.inl (if (prc (S 0 35) (S 0 30 7) (S 0 30 5 + 1)).2.1 = -5 then 0 else if (prc (S 0 35) (S 0 30 7) (S 0 30 5 + 1)).2.2 = -5 then 0 else 1))) (hr S 0 30 (up (up (up (up (S 0 30) 9 99) 5 (prc (S 0 35) (S 0 30 7) (S 0 30 5 + 1)).1) 11 (prc (S 0 35) (S 0 30 7) (S 0 30 5 + 1)).2.2) 10 (prc (S 0 35) (S 0 30 7) (S 0 30 5 + 1)).2.1)) := by
  have r1 := fun Q => ro_num (o := 99) hT hl (a := 0) (b := 2) (by omega) (by omega) Q
  have hb := nuM_b (X := S 0 35) (len := S 0 30 7) (p := S 0 30 5 + 1) (a := 0) (b := 2) (by omega) (by omega) (by omega)
  have h1 := hT.1
  have h2 := hT.2.1
  unfold prc
  generalize nuM (S 0 35) (S 0 30 7) (S 0 30 5 + 1) 0 2 = N at *
  refine Wc_eq ?_ Q
  unfold Wc
  by_cases h5 : N.1 = -5
  · rw [if_pos h5, if_pos h5]
    rw [← ro_arr3 (p := S 0 30 5 + 1)]
    refine vg_sound (fun _ _ => false) (fun m => m == 167) 120 _ _ _ _ _ _ ?_
    repeat' first | (with_reducible refine vT ?_ ?_; · omega) | (with_reducible refine vF ?_ ?_; · omega) | (with_reducible refine vI (fun _ => ?_) (fun _ => ?_)) | (simp (config := {maxSteps := 1000000}) (disch := (first | assumption | omega | (rw [hr_at]; assumption) | (rw [hr_at]; omega))) only [f_X8_readOrder, wg_0, wg_s, wK_none, wK_N, wK_C, wK_R, wQ_some, wQ_none, stR, mZ, mC, stI, ini, mL, gI, gA, sI, sA, bi, gF, pF, kF, kT, kL, c2, mT, mR, f4, tsw, lsw, tgt, inR, Nat.reduceLT, Nat.reduceLeDiff, Nat.reduceEqDiff, Nat.reduceAdd, Nat.reduceSub, ↓reduceIte, Bool.false_eq_true, List.map_cons, List.map_nil, List.length_cons, List.length_nil, List.replicate, List.cons_append, List.nil_append, List.getElem?_cons_zero, List.getElem?_cons_succ, List.set, List.take_succ_cons, List.take_zero, List.drop_succ_cons, List.drop_zero, List.reverse_cons, List.reverse_nil, Int.reduceLE, Int.reduceLT, Int.reduceNeg, Int.reduceToNat, true_and, and_true, and_self, beq_iff_eq, Bool.and_eq_true, Bool.or_eq_true, or_false, false_or, or_true, true_or, and_false, false_and, hu_hr, hr_hr, hr_at, hr_nc, not_false_eq_true, Int.reduceEq, Int.pow_zero, Int.reducePow, Int.reduceMul, Int.reduceAdd, Int.reduceDiv, Int.reduceMod, Int.zero_add, Int.add_zero, Int.mul_one, Int.cast_ofNat_Int, up_ap, r1, ho, h5])
  · rw [if_neg h5]
    have r2 := fun Q => ro_sgn (o := 99) (p := S 0 30 5 + 1) (q := N.2) (f := N.1) hT (by omega) Q
    by_cases hn : nxP (S 0 35) (S 0 30 7) N.2 58 58
    · rw [if_pos hn] at r2 ⊢
      have hn1 := hn.1
      have r3 := fun Q => ro_num2 (o := 99) (p := S 0 30 5 + 1) (q := N.2) (q2 := N.2 + 1) (f := N.1) hT (by omega) Q
      have hk := nuM_b (X := S 0 35) (len := S 0 30 7) (p := N.2 + 1) (a := 0) (b := 599) (by omega) (by omega) (by omega)
      generalize nuM (S 0 35) (S 0 30 7) (N.2 + 1) 0 599 = K at *
      rw [if_neg h5, ← ro_arr2 (p := S 0 30 5 + 1) (q := N.2)]
      by_cases h6 : K.1 = -5
      · rw [if_pos h6]
        refine vg_sound (fun _ _ => false) (fun m => m == 167) 120 _ _ _ _ _ _ ?_
        repeat' first | (with_reducible refine vT ?_ ?_; · omega) | (with_reducible refine vF ?_ ?_; · omega) | (with_reducible refine vI (fun _ => ?_) (fun _ => ?_)) | (simp (config := {maxSteps := 1000000}) (disch := (first | assumption | omega | (rw [hr_at]; assumption) | (rw [hr_at]; omega))) only [f_X8_readOrder, wg_0, wg_s, wK_none, wK_N, wK_C, wK_R, wQ_some, wQ_none, stR, mZ, mC, stI, ini, mL, gI, gA, sI, sA, bi, gF, pF, kF, kT, kL, c2, mT, mR, f4, tsw, lsw, tgt, inR, Nat.reduceLT, Nat.reduceLeDiff, Nat.reduceEqDiff, Nat.reduceAdd, Nat.reduceSub, ↓reduceIte, Bool.false_eq_true, List.map_cons, List.map_nil, List.length_cons, List.length_nil, List.replicate, List.cons_append, List.nil_append, List.getElem?_cons_zero, List.getElem?_cons_succ, List.set, List.take_succ_cons, List.take_zero, List.drop_succ_cons, List.drop_zero, List.reverse_cons, List.reverse_nil, Int.reduceLE, Int.reduceLT, Int.reduceNeg, Int.reduceToNat, true_and, and_true, and_self, beq_iff_eq, Bool.and_eq_true, Bool.or_eq_true, or_false, false_or, or_true, true_or, and_false, false_and, hu_hr, hr_hr, hr_at, hr_nc, not_false_eq_true, Int.reduceEq, Int.pow_zero, Int.reducePow, Int.reduceMul, Int.reduceAdd, Int.reduceDiv, Int.reduceMod, Int.zero_add, Int.add_zero, Int.mul_one, Int.cast_ofNat_Int, up_ap, r1, r2, r3, ho, h6])
      · rw [if_neg h6]
        refine vg_sound (fun _ _ => false) (fun m => m == 167) 120 _ _ _ _ _ _ ?_
        repeat' first | (with_reducible refine vT ?_ ?_; · omega) | (with_reducible refine vF ?_ ?_; · omega) | (with_reducible refine vI (fun _ => ?_) (fun _ => ?_)) | (simp (config := {maxSteps := 1000000}) (disch := (first | assumption | omega | (rw [hr_at]; assumption) | (rw [hr_at]; omega))) only [f_X8_readOrder, wg_0, wg_s, wK_none, wK_N, wK_C, wK_R, wQ_some, wQ_none, stR, mZ, mC, stI, ini, mL, gI, gA, sI, sA, bi, gF, pF, kF, kT, kL, c2, mT, mR, f4, tsw, lsw, tgt, inR, Nat.reduceLT, Nat.reduceLeDiff, Nat.reduceEqDiff, Nat.reduceAdd, Nat.reduceSub, ↓reduceIte, Bool.false_eq_true, List.map_cons, List.map_nil, List.length_cons, List.length_nil, List.replicate, List.cons_append, List.nil_append, List.getElem?_cons_zero, List.getElem?_cons_succ, List.set, List.take_succ_cons, List.take_zero, List.drop_succ_cons, List.drop_zero, List.reverse_cons, List.reverse_nil, Int.reduceLE, Int.reduceLT, Int.reduceNeg, Int.reduceToNat, true_and, and_true, and_self, beq_iff_eq, Bool.and_eq_true, Bool.or_eq_true, or_false, false_or, or_true, true_or, and_false, false_and, hu_hr, hr_hr, hr_at, hr_nc, not_false_eq_true, Int.reduceEq, Int.pow_zero, Int.reducePow, Int.reduceMul, Int.reduceAdd, Int.reduceDiv, Int.reduceMod, Int.zero_add, Int.add_zero, Int.mul_one, Int.cast_ofNat_Int, up_ap, r1, r2, r3, ho])
    · rw [if_neg hn] at r2 ⊢
      rw [if_neg h5, if_pos rfl, ← ro_arr2 (p := S 0 30 5 + 1) (q := N.2)]
      refine vg_sound (fun _ _ => false) (fun m => m == 167) 120 _ _ _ _ _ _ ?_
      repeat' first | (with_reducible refine vT ?_ ?_; · omega) | (with_reducible refine vF ?_ ?_; · omega) | (with_reducible refine vI (fun _ => ?_) (fun _ => ?_)) | (simp (config := {maxSteps := 1000000}) (disch := (first | assumption | omega | (rw [hr_at]; assumption) | (rw [hr_at]; omega))) only [f_X8_readOrder, wg_0, wg_s, wK_none, wK_N, wK_C, wK_R, wQ_some, wQ_none, stR, mZ, mC, stI, ini, mL, gI, gA, sI, sA, bi, gF, pF, kF, kT, kL, c2, mT, mR, f4, tsw, lsw, tgt, inR, Nat.reduceLT, Nat.reduceLeDiff, Nat.reduceEqDiff, Nat.reduceAdd, Nat.reduceSub, ↓reduceIte, Bool.false_eq_true, List.map_cons, List.map_nil, List.length_cons, List.length_nil, List.replicate, List.cons_append, List.nil_append, List.getElem?_cons_zero, List.getElem?_cons_succ, List.set, List.take_succ_cons, List.take_zero, List.drop_succ_cons, List.drop_zero, List.reverse_cons, List.reverse_nil, Int.reduceLE, Int.reduceLT, Int.reduceNeg, Int.reduceToNat, true_and, and_true, and_self, beq_iff_eq, Bool.and_eq_true, Bool.or_eq_true, or_false, false_or, or_true, true_or, and_false, false_and, hu_hr, hr_hr, hr_at, hr_nc, not_false_eq_true, Int.reduceEq, Int.pow_zero, Int.reducePow, Int.reduceMul, Int.reduceAdd, Int.reduceDiv, Int.reduceMod, Int.zero_add, Int.add_zero, Int.mul_one, Int.cast_ofNat_Int, up_ap, r1, r2, ho])
set_option maxHeartbeats 4000000 in
set_option maxRecDepth 100000 in
theorem m_readOrder {S : Hp} (hT : TxP (S 0 35) (S 0 30)) (Q : Option MV → Hp → Prop) : Wc 167 [.inr (0, 30)] S Q = Q (some (.inl (roV (S 0 35) (S 0 30)))) (hr S 0 30 (roR (S 0 35) (S 0 30))) := by
  unfold roV roR
  by_cases ho : okO (ordO (S 0 35) (S 0 30))
  · rw [if_pos ho, if_pos ho]
    have hl : S 0 30 5 < S 0 30 7 := by
      unfold ordO at ho
      rcases Int.lt_or_le (S 0 30 5) (S 0 30 7) with h | h
      · exact h
      · rw [if_neg (by omega)] at ho
        unfold okO at ho
        omega
    have e : ordO (S 0 35) (S 0 30) = S 0 35 (S 0 30 5) := if_pos hl
    rw [e] at ho ⊢
    rcases ho with h | h | h | h
    · have ep : prs (S 0 35) (S 0 30 7) (S 0 30 5 + 1) 115 = ((nuM (S 0 35) (S 0 30 7) (S 0 30 5 + 1) 0 599).2, (nuM (S 0 35) (S 0 30 7) (S 0 30 5 + 1) 0 599).1, 0) := if_pos rfl
      rw [h, ep, ro_one hT hl h (Or.inl ⟨rfl, rfl, rfl⟩)]
      dsimp only
      rw [if_neg (show ¬ (0 : Int) = -5 by decide)]
    · have ep : prs (S 0 35) (S 0 30 7) (S 0 30 5 + 1) 99 = prc (S 0 35) (S 0 30 7) (S 0 30 5 + 1) := by
        unfold prs
        rw [if_neg (by decide), if_neg (by decide), if_neg (by decide)]
      rw [h, ep, ro_c hT hl h]
    · have ep : prs (S 0 35) (S 0 30 7) (S 0 30 5 + 1) 100 = ((nuM (S 0 35) (S 0 30 7) (S 0 30 5 + 1) 0 5).2, (nuM (S 0 35) (S 0 30 7) (S 0 30 5 + 1) 0 5).1, 0) := by
        unfold prs
        rw [if_neg (by decide), if_pos rfl]
      rw [h, ep, ro_one hT hl h (Or.inr (Or.inl ⟨rfl, rfl, rfl⟩))]
      dsimp only
      rw [if_neg (show ¬ (0 : Int) = -5 by decide)]
    · have ep : prs (S 0 35) (S 0 30 7) (S 0 30 5 + 1) 116 = ((nuM (S 0 35) (S 0 30 7) (S 0 30 5 + 1) 1 99).2, (nuM (S 0 35) (S 0 30 7) (S 0 30 5 + 1) 1 99).1, 0) := by
        unfold prs
        rw [if_neg (by decide), if_neg (by decide), if_pos rfl]
      rw [h, ep, ro_one hT hl h (Or.inr (Or.inr ⟨rfl, rfl, rfl⟩))]
      dsimp only
      rw [if_neg (show ¬ (0 : Int) = -5 by decide)]
  · rw [if_neg ho, if_neg ho]
    exact ro_no hT ho Q
