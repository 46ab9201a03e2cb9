/-! THE CLASS: acts -/
def EqO (O P : Of) : Prop := (O 0 0 = P 0 0 ∧ O 0 1 = P 0 1 ∧ O 0 8 = P 0 8 ∧ O 0 9 = P 0 9 ∧ O 0 10 = P 0 10) ∧ O 18 0 = P 18 0 ∧ (O 21 0 = P 21 0 ∧ O 21 1 = P 21 1) ∧ (∀ j : Int, 0 ≤ j → j < 3 → O 1 j = P 1 j) ∧ (∀ j : Int, 0 ≤ j → j < 600 → O 3 j = P 3 j) ∧ (∀ j : Int, 0 ≤ j → j < 600 → O 4 j = P 4 j) ∧ (∀ j : Int, 0 ≤ j → j < 6 → O 6 j = P 6 j) ∧ (∀ j : Int, 0 ≤ j → j < 6 → O 7 j = P 7 j) ∧ (∀ j : Int, 0 ≤ j → j < 18 → O 8 j = P 8 j) ∧ (∀ j : Int, 0 ≤ j → j < 24 → O 10 j = P 10 j) ∧ (∀ j : Int, 0 ≤ j → j < 3 → O 11 j = P 11 j) ∧ (∀ j : Int, 0 ≤ j → j < 3 → O 12 j = P 12 j) ∧ (∀ j : Int, 0 ≤ j → j < 3 → O 13 j = P 13 j) ∧ (∀ j : Int, 0 ≤ j → j < 3 → O 14 j = P 14 j) ∧ (∀ j : Int, 0 ≤ j → j < 3 → O 15 j = P 15 j) ∧ (∀ j : Int, 0 ≤ j → j < 3 → O 16 j = P 16 j) ∧ (∀ j : Int, 0 ≤ j → j < 3 → O 17 j = P 17 j) ∧ (∀ j : Int, 0 ≤ j → j < 150 → O 19 j = P 19 j) ∧ (∀ j : Int, 0 ≤ j → j < 150 → O 20 j = P 20 j) ∧ (∀ j : Int, 0 ≤ j → j < 114 → O 22 j = P 22 j)
set_option maxHeartbeats 4000000 in
set_option maxRecDepth 100000 in
theorem cpO_eq (O P : Of) : EqO (cpO O P) P := by
  unfold EqO cpO
  refine ⟨⟨?_, ?_, ?_, ?_, ?_⟩, ?_, ⟨?_, ?_⟩, ?_, ?_, ?_, ?_, ?_, ?_, ?_, ?_, ?_, ?_, ?_, ?_, ?_, ?_, ?_, ?_, ?_⟩
  · simp (disch := decide) only [oc_at, oc_nc, up_ap, Int.reduceEq, ↓reduceIte]
  · simp (disch := decide) only [oc_at, oc_nc, up_ap, Int.reduceEq, ↓reduceIte]
  · simp (disch := decide) only [oc_at, oc_nc, up_ap, Int.reduceEq, ↓reduceIte]
  · simp (disch := decide) only [oc_at, oc_nc, up_ap, Int.reduceEq, ↓reduceIte]
  · simp (disch := decide) only [oc_at, oc_nc, up_ap, Int.reduceEq, ↓reduceIte]
  · simp (disch := decide) only [oc_at, oc_nc, up_ap, Int.reduceEq, ↓reduceIte]
  · simp (disch := decide) only [oc_at, oc_nc, up_ap, Int.reduceEq, ↓reduceIte]
  · simp (disch := decide) only [oc_at, oc_nc, up_ap, Int.reduceEq, ↓reduceIte]
  · intro j h1 h2; simp (disch := decide) only [oc_at, oc_nc]; exact cpF_in ⟨h1, h2⟩
  · intro j h1 h2; simp (disch := decide) only [oc_at, oc_nc]; exact cpF_in ⟨h1, h2⟩
  · intro j h1 h2; simp (disch := decide) only [oc_at, oc_nc]; exact cpF_in ⟨h1, h2⟩
  · intro j h1 h2; simp (disch := decide) only [oc_at, oc_nc]; exact cpF_in ⟨h1, h2⟩
  · intro j h1 h2; simp (disch := decide) only [oc_at, oc_nc]; exact cpF_in ⟨h1, h2⟩
  · intro j h1 h2; simp (disch := decide) only [oc_at, oc_nc]; exact cpF_in ⟨h1, h2⟩
  · intro j h1 h2; simp (disch := decide) only [oc_at, oc_nc]; exact cpF_in ⟨h1, h2⟩
  · intro j h1 h2; simp (disch := decide) only [oc_at, oc_nc]; exact cpF_in ⟨h1, h2⟩
  · intro j h1 h2; simp (disch := decide) only [oc_at, oc_nc]; exact cpF_in ⟨h1, h2⟩
  · intro j h1 h2; simp (disch := decide) only [oc_at, oc_nc]; exact cpF_in ⟨h1, h2⟩
  · intro j h1 h2; simp (disch := decide) only [oc_at, oc_nc]; exact cpF_in ⟨h1, h2⟩
  · intro j h1 h2; simp (disch := decide) only [oc_at, oc_nc]; exact cpF_in ⟨h1, h2⟩
  · intro j h1 h2; simp (disch := decide) only [oc_at, oc_nc]; exact cpF_in ⟨h1, h2⟩
  · intro j h1 h2; simp (disch := decide) only [oc_at, oc_nc]; exact cpF_in ⟨h1, h2⟩
  · intro j h1 h2; simp (disch := decide) only [oc_at, oc_nc]; exact cpF_in ⟨h1, h2⟩
  · intro j h1 h2; simp (disch := decide) only [oc_at, oc_nc]; exact cpF_in ⟨h1, h2⟩
  · intro j h1 h2; simp (disch := decide) only [oc_at, oc_nc]; exact cpF_in ⟨h1, h2⟩
set_option maxHeartbeats 4000000 in
set_option maxRecDepth 100000 in
theorem EqO_refl (O : Of) : EqO O O := by
  unfold EqO
  refine ⟨⟨rfl, rfl, rfl, rfl, rfl⟩, rfl, ⟨rfl, rfl⟩, fun _ _ _ => rfl, fun _ _ _ => rfl, fun _ _ _ => rfl, fun _ _ _ => rfl, fun _ _ _ => rfl, fun _ _ _ => rfl, fun _ _ _ => rfl, fun _ _ _ => rfl, fun _ _ _ => rfl, fun _ _ _ => rfl, fun _ _ _ => rfl, fun _ _ _ => rfl, fun _ _ _ => rfl, fun _ _ _ => rfl, fun _ _ _ => rfl, fun _ _ _ => rfl, fun _ _ _ => rfl⟩
def nw (S : Hp) : Nat := (S 0 23 0).toNat
def sp (S : Hp) : Nat := (S 0 23 1).toNat
/- the copy made as an act begins -/
def bgS (S : Hp) : Hp := ho S (sp S) (cpO (S (sp S)) (S (nw S)))
set_option maxHeartbeats 4000000 in
set_option maxRecDepth 100000 in
theorem c_beginAct {S : Hp} (hne : ¬ nw S = sp S) (Q : Option MV → Hp → Prop) : Wc 86 [.inr (0, 23)] S Q = Q (some (.inr (nw S, 0))) (bgS S) := by
  refine Wc_eq ?_ Q
  unfold Wc
  have r1 := fun Q => c_copyFrom (S := S) (a := sp S) (b := nw S) (O := S (sp S)) hne Q
  rw [ho_id] at r1
  have e1 : (S 0 23 0).toNat = nw S := rfl
  have e2 : (S 0 23 1).toNat = sp S := rfl
  have e3 : (ho S (sp S) (cpO (S (sp S)) (S (nw S))) 0 23 0).toNat = nw S := by rw [ho_nc (by decide)]; rfl
  have e4 : ho S (sp S) (cpO (S (sp S)) (S (nw S))) = bgS S := rfl
  rw [e4] at r1 e3
  refine vg_sound (fun _ _ => false) (fun m => m == 86) 60 _ _ _ _ _ _ ?_
  repeat' first | (with_reducible refine vT ?_ ?_; · omega) | (with_reducible refine vF ?_ ?_; · omega) | (with_reducible refine vI (fun _ => ?_) (fun _ => ?_)) | (simp (config := {maxSteps := 1000000}) (disch := (first | assumption | omega | (rw [hr_at]; assumption) | (rw [hr_at]; omega))) only [f_X7_beginAct, wg_0, wg_s, wK_none, wK_N, wK_C, wK_R, wQ_some, wQ_none, stR, mZ, mC, stI, ini, mL, gI, gA, sI, sA, bi, gF, pF, kF, kT, kL, c2, mT, mR, f4, tsw, lsw, tgt, inR, Nat.reduceLT, Nat.reduceLeDiff, Nat.reduceEqDiff, Nat.reduceAdd, Nat.reduceSub, ↓reduceIte, Bool.false_eq_true, List.map_cons, List.map_nil, List.length_cons, List.length_nil, List.replicate, List.cons_append, List.nil_append, List.getElem?_cons_zero, List.getElem?_cons_succ, List.set, List.take_succ_cons, List.take_zero, List.drop_succ_cons, List.drop_zero, List.reverse_cons, List.reverse_nil, Int.reduceLE, Int.reduceLT, Int.reduceNeg, Int.reduceToNat, true_and, and_true, and_self, beq_iff_eq, Bool.and_eq_true, Bool.or_eq_true, or_false, false_or, or_true, true_or, and_false, false_and, hu_hr, hr_hr, hr_at, hr_nc, not_false_eq_true, Int.reduceEq, Int.pow_zero, Int.reducePow, Int.reduceMul, Int.reduceAdd, Int.reduceDiv, Int.reduceMod, Int.zero_add, Int.add_zero, Int.mul_one, Int.cast_ofNat_Int, e1, e2, r1, e3])
def rcC (C A : Int → Int) : Int → Int := if C 3 < 4 then up (up C 3 (C 3 + 1)) 1 (A (C 3)) else up C 1 (A 0)
def rcA (C A : Int → Int) : Int → Int := if C 3 < 4 then up A (C 3) (C 1) else up (up (up (up A 0 (A 1)) 1 (A 2)) 2 (A 3)) 3 (C 1)
def rcT (S : Hp) : Hp := hr (hr S 0 24 (rcA (S 0 23) (S 0 24))) 0 23 (rcC (S 0 23) (S 0 24))
set_option maxHeartbeats 4000000 in
set_option maxRecDepth 100000 in
theorem c_record {S : Hp} (hs : 0 ≤ S 0 23 3 ∧ S 0 23 3 ≤ 4) (h1 : 0 ≤ S 0 23 1) (hA : ∀ i : Int, 0 ≤ i → i < 4 → 0 ≤ S 0 24 i) (Q : Option MV → Hp → Prop) : Wc 88 [.inr (0, 23)] S Q = Q none (rcT S) := by
  refine Wc_eq ?_ Q
  unfold Wc rcT rcA rcC
  have t1 := Int.toNat_of_nonneg h1
  have a0 := Int.toNat_of_nonneg (hA 0 (by omega) (by omega))
  have a1 := Int.toNat_of_nonneg (hA 1 (by omega) (by omega))
  have a2 := Int.toNat_of_nonneg (hA 2 (by omega) (by omega))
  have a3 := Int.toNat_of_nonneg (hA 3 (by omega) (by omega))
  by_cases h : S 0 23 3 < 4
  · rw [if_pos h, if_pos h]
    have a4 := Int.toNat_of_nonneg (hA _ hs.1 h)
    refine vg_sound (fun _ _ => false) (fun m => m == 88) 300 _ _ _ _ _ _ ?_
    repeat' first | (with_reducible refine vT ?_ ?_; · omega) | (with_reducible refine vF ?_ ?_; · omega) | (with_reducible refine vI (fun _ => ?_) (fun _ => ?_)) | (simp (config := {maxSteps := 1000000}) (disch := (first | assumption | omega | (rw [hr_at]; assumption) | (rw [hr_at]; omega))) only [f_X7_record, wg_0, wg_s, wK_none, wK_N, wK_C, wK_R, wQ_some, wQ_none, stR, mZ, mC, stI, ini, mL, gI, gA, sI, sA, bi, gF, pF, kF, kT, kL, c2, mT, mR, f4, tsw, lsw, tgt, inR, Nat.reduceLT, Nat.reduceLeDiff, Nat.reduceEqDiff, Nat.reduceAdd, Nat.reduceSub, ↓reduceIte, Bool.false_eq_true, List.map_cons, List.map_nil, List.length_cons, List.length_nil, List.replicate, List.cons_append, List.nil_append, List.getElem?_cons_zero, List.getElem?_cons_succ, List.set, List.take_succ_cons, List.take_zero, List.drop_succ_cons, List.drop_zero, List.reverse_cons, List.reverse_nil, Int.reduceLE, Int.reduceLT, Int.reduceNeg, Int.reduceToNat, true_and, and_true, and_self, beq_iff_eq, Bool.and_eq_true, Bool.or_eq_true, or_false, false_or, or_true, true_or, and_false, false_and, hu_hr, hr_hr, hr_at, hr_nc, not_false_eq_true, Int.reduceEq, Int.pow_zero, Int.reducePow, Int.reduceMul, Int.reduceAdd, Int.reduceDiv, Int.reduceMod, Int.zero_add, Int.add_zero, Int.mul_one, Int.cast_ofNat_Int, t1, a4, up_ap])
  · rw [if_neg h, if_neg h]
    refine vg_sound (fun _ _ => false) (fun m => m == 88) 300 _ _ _ _ _ _ ?_
    repeat' first | (with_reducible refine vT ?_ ?_; · omega) | (with_reducible refine vF ?_ ?_; · omega) | (with_reducible refine vI (fun _ => ?_) (fun _ => ?_)) | (simp (config := {maxSteps := 1000000}) (disch := (first | assumption | omega | (rw [hr_at]; assumption) | (rw [hr_at]; omega))) only [f_X7_record, wg_0, wg_s, wK_none, wK_N, wK_C, wK_R, wQ_some, wQ_none, stR, mZ, mC, stI, ini, mL, gI, gA, sI, sA, bi, gF, pF, kF, kT, kL, c2, mT, mR, f4, tsw, lsw, tgt, inR, Nat.reduceLT, Nat.reduceLeDiff, Nat.reduceEqDiff, Nat.reduceAdd, Nat.reduceSub, ↓reduceIte, Bool.false_eq_true, List.map_cons, List.map_nil, List.length_cons, List.length_nil, List.replicate, List.cons_append, List.nil_append, List.getElem?_cons_zero, List.getElem?_cons_succ, List.set, List.take_succ_cons, List.take_zero, List.drop_succ_cons, List.drop_zero, List.reverse_cons, List.reverse_nil, Int.reduceLE, Int.reduceLT, Int.reduceNeg, Int.reduceToNat, true_and, and_true, and_self, beq_iff_eq, Bool.and_eq_true, Bool.or_eq_true, or_false, false_or, or_true, true_or, and_false, false_and, hu_hr, hr_hr, hr_at, hr_nc, not_false_eq_true, Int.reduceEq, Int.pow_zero, Int.reducePow, Int.reduceMul, Int.reduceAdd, Int.reduceDiv, Int.reduceMod, Int.zero_add, Int.add_zero, Int.mul_one, Int.cast_ofNat_Int, t1, a0, a1, a2, a3, up_ap, Int.reduceSub])
def PmB (S : Hp) : Prop := (0 ≤ S 0 23 3 ∧ S 0 23 3 ≤ 4) ∧ 0 ≤ S 0 23 1 ∧ ∀ i : Int, 0 ≤ i → i < 4 → 0 ≤ S 0 24 i
def edS (S : Hp) (v : Int) : Hp := if 0 ≤ v then rcT S else S
set_option maxHeartbeats 4000000 in
set_option maxRecDepth 100000 in
theorem c_endAct {S : Hp} {v : Int} (hP : PmB S) (hv : tdR v) (Q : Option MV → Hp → Prop) : Wc 87 [.inr (0, 23), .inl v] S Q = Q (some (.inl v)) (edS S v) := by
  refine Wc_eq ?_ Q
  unfold Wc edS
  unfold tdR at hv
  have r1 := fun Q => c_record (S := S) hP.1 hP.2.1 hP.2.2 Q
  by_cases h : 0 ≤ v
  · rw [if_pos h]
    refine vg_sound (fun _ _ => false) (fun m => m == 87) 60 _ _ _ _ _ _ ?_
    repeat' first | (with_reducible refine vT ?_ ?_; · omega) | (with_reducible refine vF ?_ ?_; · omega) | (with_reducible refine vI (fun _ => ?_) (fun _ => ?_)) | (simp (config := {maxSteps := 1000000}) (disch := (first | assumption | omega | (rw [hr_at]; assumption) | (rw [hr_at]; omega))) only [f_X7_endAct, wg_0, wg_s, wK_none, wK_N, wK_C, wK_R, wQ_some, wQ_none, stR, mZ, mC, stI, ini, mL, gI, gA, sI, sA, bi, gF, pF, kF, kT, kL, c2, mT, mR, f4, tsw, lsw, tgt, inR, Nat.reduceLT, Nat.reduceLeDiff, Nat.reduceEqDiff, Nat.reduceAdd, Nat.reduceSub, ↓reduceIte, Bool.false_eq_true, List.map_cons, List.map_nil, List.length_cons, List.length_nil, List.replicate, List.cons_append, List.nil_append, List.getElem?_cons_zero, List.getElem?_cons_succ, List.set, List.take_succ_cons, List.take_zero, List.drop_succ_cons, List.drop_zero, List.reverse_cons, List.reverse_nil, Int.reduceLE, Int.reduceLT, Int.reduceNeg, Int.reduceToNat, true_and, and_true, and_self, beq_iff_eq, Bool.and_eq_true, Bool.or_eq_true, or_false, false_or, or_true, true_or, and_false, false_and, hu_hr, hr_hr, hr_at, hr_nc, not_false_eq_true, Int.reduceEq, Int.pow_zero, Int.reducePow, Int.reduceMul, Int.reduceAdd, Int.reduceDiv, Int.reduceMod, Int.zero_add, Int.add_zero, Int.mul_one, Int.cast_ofNat_Int, r1])
  · rw [if_neg h]
    refine vg_sound (fun _ _ => false) (fun m => m == 87) 60 _ _ _ _ _ _ ?_
    repeat' first | (with_reducible refine vT ?_ ?_; · omega) | (with_reducible refine vF ?_ ?_; · omega) | (with_reducible refine vI (fun _ => ?_) (fun _ => ?_)) | (simp (config := {maxSteps := 1000000}) (disch := (first | assumption | omega | (rw [hr_at]; assumption) | (rw [hr_at]; omega))) only [f_X7_endAct, wg_0, wg_s, wK_none, wK_N, wK_C, wK_R, wQ_some, wQ_none, stR, mZ, mC, stI, ini, mL, gI, gA, sI, sA, bi, gF, pF, kF, kT, kL, c2, mT, mR, f4, tsw, lsw, tgt, inR, Nat.reduceLT, Nat.reduceLeDiff, Nat.reduceEqDiff, Nat.reduceAdd, Nat.reduceSub, ↓reduceIte, Bool.false_eq_true, List.map_cons, List.map_nil, List.length_cons, List.length_nil, List.replicate, List.cons_append, List.nil_append, List.getElem?_cons_zero, List.getElem?_cons_succ, List.set, List.take_succ_cons, List.take_zero, List.drop_succ_cons, List.drop_zero, List.reverse_cons, List.reverse_nil, Int.reduceLE, Int.reduceLT, Int.reduceNeg, Int.reduceToNat, true_and, and_true, and_self, beq_iff_eq, Bool.and_eq_true, Bool.or_eq_true, or_false, false_or, or_true, true_or, and_false, false_and, hu_hr, hr_hr, hr_at, hr_nc, not_false_eq_true, Int.reduceEq, Int.pow_zero, Int.reducePow, Int.reduceMul, Int.reduceAdd, Int.reduceDiv, Int.reduceMod, Int.zero_add, Int.add_zero, Int.mul_one, Int.cast_ofNat_Int, r1])
/- the heap in an act: the spare office is a copy, the one that is now is O -/
def acS (S : Hp) (O : Of) : Hp := ho (bgS S) (nw S) O
set_option maxHeartbeats 4000000 in
set_option maxRecDepth 100000 in
theorem ac_0 {S : Hp} (hne : ¬ nw S = sp S) : bgS S = acS S (S (nw S)) := by
  unfold acS
  have e : bgS S (nw S) = S (nw S) := by
    funext c j
    unfold bgS
    rw [ho_nk hne]
  rw [← e, ho_id]
set_option maxHeartbeats 4000000 in
set_option maxRecDepth 100000 in
theorem ac_P {S : Hp} {O : Of} (hP : PmB S) : PmB (acS S O) := by
  unfold PmB acS bgS at *
  rw [ho_nc (by decide), ho_nc (by decide), ho_nc (by decide), ho_nc (by decide)]
  exact hP
set_option maxHeartbeats 4000000 in
set_option maxRecDepth 100000 in
theorem c_sell {S : Hp} {t : Int} (hP : PmB S) (hne : ¬ nw S = sp S) (hB : FxB (S (nw S))) (hG : WgB (S (nw S))) (ht : tdR t) (hV : tdR (seV (S (nw S)) t)) (Q : Option MV → Hp → Prop) : Wc 70 [.inr (0, 23), .inl t] S Q = Q (some (.inl (seV (S (nw S)) t))) (edS (acS S (seO (S (nw S)) t)) (seV (S (nw S)) t)) := by
  refine Wc_eq ?_ Q
  unfold Wc
  have r1 := fun Q => c_beginAct (S := S) hne Q
  rw [ac_0 hne] at r1
  have r2 : ∀ Q : Option MV → Hp → Prop, Wc 21 [.inr (nw S, 0), .inl t] (acS S (S (nw S))) Q = Q (some (.inl (seV (S (nw S)) t))) (acS S (seO (S (nw S)) t)) := fun Q => c_sellTicket (S := bgS S) (k := nw S) (O := S (nw S)) (t := t) hB hG ht Q
  have r3 := fun Q => c_endAct (S := acS S (seO (S (nw S)) t)) (ac_P hP) hV Q
  refine vg_sound (fun _ _ => false) (fun m => m == 70) 60 _ _ _ _ _ _ ?_
  repeat' first | (with_reducible refine vT ?_ ?_; · omega) | (with_reducible refine vF ?_ ?_; · omega) | (with_reducible refine vI (fun _ => ?_) (fun _ => ?_)) | (simp (config := {maxSteps := 1000000}) (disch := (first | assumption | omega | (rw [hr_at]; assumption) | (rw [hr_at]; omega))) only [f_X7_sell, wg_0, wg_s, wK_none, wK_N, wK_C, wK_R, wQ_some, wQ_none, stR, mZ, mC, stI, ini, mL, gI, gA, sI, sA, bi, gF, pF, kF, kT, kL, c2, mT, mR, f4, tsw, lsw, tgt, inR, Nat.reduceLT, Nat.reduceLeDiff, Nat.reduceEqDiff, Nat.reduceAdd, Nat.reduceSub, ↓reduceIte, Bool.false_eq_true, List.map_cons, List.map_nil, List.length_cons, List.length_nil, List.replicate, List.cons_append, List.nil_append, List.getElem?_cons_zero, List.getElem?_cons_succ, List.set, List.take_succ_cons, List.take_zero, List.drop_succ_cons, List.drop_zero, List.reverse_cons, List.reverse_nil, Int.reduceLE, Int.reduceLT, Int.reduceNeg, Int.reduceToNat, true_and, and_true, and_self, beq_iff_eq, Bool.and_eq_true, Bool.or_eq_true, or_false, false_or, or_true, true_or, and_false, false_and, hu_hr, hr_hr, hr_at, hr_nc, not_false_eq_true, Int.reduceEq, Int.pow_zero, Int.reducePow, Int.reduceMul, Int.reduceAdd, Int.reduceDiv, Int.reduceMod, Int.zero_add, Int.add_zero, Int.mul_one, Int.cast_ofNat_Int, r1, r2, r3])
set_option maxHeartbeats 4000000 in
set_option maxRecDepth 100000 in
theorem c_draw {S : Hp} {d : Int} (hP : PmB S) (hne : ¬ nw S = sp S) (hB : FxB (S (nw S))) (hG : WgB (S (nw S))) (hl : 0 ≤ S (nw S) 0 1 ∧ S (nw S) 0 1 < 65537) (h0 : ∀ d : Int, 0 ≤ d → d < 6 → S (nw S) 7 d = -5 → ∀ n : Int, 0 ≤ n → n < 100 → S (nw S) 3 (d * 100 + n) / 8 % 4 = 0) (hd : tdR d) (hV : tdR (dbV (S (nw S)) d)) (Q : Option MV → Hp → Prop) : Wc 71 [.inr (0, 23), .inl d] S Q = Q (some (.inl (dbV (S (nw S)) d))) (edS (acS S (dbO (S (nw S)) d)) (dbV (S (nw S)) d)) := by
  refine Wc_eq ?_ Q
  unfold Wc
  have r1 := fun Q => c_beginAct (S := S) hne Q
  rw [ac_0 hne] at r1
  have r2 : ∀ Q : Option MV → Hp → Prop, Wc 22 [.inr (nw S, 0), .inl d] (acS S (S (nw S))) Q = Q (some (.inl (dbV (S (nw S)) d))) (acS S (dbO (S (nw S)) d)) := fun Q => c_drawByLot (S := bgS S) (k := nw S) (O := S (nw S)) (d := d) hB hG hl h0 hd Q
  have r3 := fun Q => c_endAct (S := acS S (dbO (S (nw S)) d)) (ac_P hP) hV Q
  refine vg_sound (fun _ _ => false) (fun m => m == 71) 60 _ _ _ _ _ _ ?_
  repeat' first | (with_reducible refine vT ?_ ?_; · omega) | (with_reducible refine vF ?_ ?_; · omega) | (with_reducible refine vI (fun _ => ?_) (fun _ => ?_)) | (simp (config := {maxSteps := 1000000}) (disch := (first | assumption | omega | (rw [hr_at]; assumption) | (rw [hr_at]; omega))) only [f_X7_draw, wg_0, wg_s, wK_none, wK_N, wK_C, wK_R, wQ_some, wQ_none, stR, mZ, mC, stI, ini, mL, gI, gA, sI, sA, bi, gF, pF, kF, kT, kL, c2, mT, mR, f4, tsw, lsw, tgt, inR, Nat.reduceLT, Nat.reduceLeDiff, Nat.reduceEqDiff, Nat.reduceAdd, Nat.reduceSub, ↓reduceIte, Bool.false_eq_true, List.map_cons, List.map_nil, List.length_cons, List.length_nil, List.replicate, List.cons_append, List.nil_append, List.getElem?_cons_zero, List.getElem?_cons_succ, List.set, List.take_succ_cons, List.take_zero, List.drop_succ_cons, List.drop_zero, List.reverse_cons, List.reverse_nil, Int.reduceLE, Int.reduceLT, Int.reduceNeg, Int.reduceToNat, true_and, and_true, and_self, beq_iff_eq, Bool.and_eq_true, Bool.or_eq_true, or_false, false_or, or_true, true_or, and_false, false_and, hu_hr, hr_hr, hr_at, hr_nc, not_false_eq_true, Int.reduceEq, Int.pow_zero, Int.reducePow, Int.reduceMul, Int.reduceAdd, Int.reduceDiv, Int.reduceMod, Int.zero_add, Int.add_zero, Int.mul_one, Int.cast_ofNat_Int, r1, r2, r3])
set_option maxHeartbeats 4000000 in
set_option maxRecDepth 100000 in
theorem c_come {S : Hp} {w t : Int} (hP : PmB S) (hne : ¬ nw S = sp S) (hs : ∀ w : Int, 0 ≤ w → w < 3 → 0 ≤ S (nw S) 11 w ∧ S (nw S) 11 w ≤ 8) (hw : tdR w) (ht : tdR t) (hV : tdR (acV (S (nw S)) w t)) (Q : Option MV → Hp → Prop) : Wc 72 [.inr (0, 23), .inl w, .inl t] S Q = Q (some (.inl (acV (S (nw S)) w t))) (edS (acS S (acO (S (nw S)) w t)) (acV (S (nw S)) w t)) := by
  refine Wc_eq ?_ Q
  unfold Wc
  have r1 := fun Q => c_beginAct (S := S) hne Q
  rw [ac_0 hne] at r1
  have r2 : ∀ Q : Option MV → Hp → Prop, Wc 24 [.inr (nw S, 0), .inl w, .inl t] (acS S (S (nw S))) Q = Q (some (.inl (acV (S (nw S)) w t))) (acS S (acO (S (nw S)) w t)) := fun Q => c_addCustomer (S := bgS S) (k := nw S) (O := S (nw S)) (w := w) (t := t) hs hw ht Q
  have r3 := fun Q => c_endAct (S := acS S (acO (S (nw S)) w t)) (ac_P hP) hV Q
  refine vg_sound (fun _ _ => false) (fun m => m == 72) 60 _ _ _ _ _ _ ?_
  repeat' first | (with_reducible refine vT ?_ ?_; · omega) | (with_reducible refine vF ?_ ?_; · omega) | (with_reducible refine vI (fun _ => ?_) (fun _ => ?_)) | (simp (config := {maxSteps := 1000000}) (disch := (first | assumption | omega | (rw [hr_at]; assumption) | (rw [hr_at]; omega))) only [f_X7_come, wg_0, wg_s, wK_none, wK_N, wK_C, wK_R, wQ_some, wQ_none, stR, mZ, mC, stI, ini, mL, gI, gA, sI, sA, bi, gF, pF, kF, kT, kL, c2, mT, mR, f4, tsw, lsw, tgt, inR, Nat.reduceLT, Nat.reduceLeDiff, Nat.reduceEqDiff, Nat.reduceAdd, Nat.reduceSub, ↓reduceIte, Bool.false_eq_true, List.map_cons, List.map_nil, List.length_cons, List.length_nil, List.replicate, List.cons_append, List.nil_append, List.getElem?_cons_zero, List.getElem?_cons_succ, List.set, List.take_succ_cons, List.take_zero, List.drop_succ_cons, List.drop_zero, List.reverse_cons, List.reverse_nil, Int.reduceLE, Int.reduceLT, Int.reduceNeg, Int.reduceToNat, true_and, and_true, and_self, beq_iff_eq, Bool.and_eq_true, Bool.or_eq_true, or_false, false_or, or_true, true_or, and_false, false_and, hu_hr, hr_hr, hr_at, hr_nc, not_false_eq_true, Int.reduceEq, Int.pow_zero, Int.reducePow, Int.reduceMul, Int.reduceAdd, Int.reduceDiv, Int.reduceMod, Int.zero_add, Int.add_zero, Int.mul_one, Int.cast_ofNat_Int, r1, r2, r3])
set_option maxHeartbeats 4000000 in
set_option maxRecDepth 100000 in
theorem c_leave {S : Hp} {t : Int} (hP : PmB S) (hne : ¬ nw S = sp S) (hR : RwB (S (nw S))) (ht : tdR t) (hV : tdR (rcV (S (nw S)) t)) (Q : Option MV → Hp → Prop) : Wc 73 [.inr (0, 23), .inl t] S Q = Q (some (.inl (rcV (S (nw S)) t))) (edS (acS S (rcO (S (nw S)) t)) (rcV (S (nw S)) t)) := by
  refine Wc_eq ?_ Q
  unfold Wc
  have r1 := fun Q => c_beginAct (S := S) hne Q
  rw [ac_0 hne] at r1
  have r2 : ∀ Q : Option MV → Hp → Prop, Wc 25 [.inr (nw S, 0), .inl t] (acS S (S (nw S))) Q = Q (some (.inl (rcV (S (nw S)) t))) (acS S (rcO (S (nw S)) t)) := fun Q => c_removeCustomers (S := bgS S) (k := nw S) (O := S (nw S)) (t := t) hR ht Q
  have r3 := fun Q => c_endAct (S := acS S (rcO (S (nw S)) t)) (ac_P hP) hV Q
  refine vg_sound (fun _ _ => false) (fun m => m == 73) 60 _ _ _ _ _ _ ?_
  repeat' first | (with_reducible refine vT ?_ ?_; · omega) | (with_reducible refine vF ?_ ?_; · omega) | (with_reducible refine vI (fun _ => ?_) (fun _ => ?_)) | (simp (config := {maxSteps := 1000000}) (disch := (first | assumption | omega | (rw [hr_at]; assumption) | (rw [hr_at]; omega))) only [f_X7_leave, wg_0, wg_s, wK_none, wK_N, wK_C, wK_R, wQ_some, wQ_none, stR, mZ, mC, stI, ini, mL, gI, gA, sI, sA, bi, gF, pF, kF, kT, kL, c2, mT, mR, f4, tsw, lsw, tgt, inR, Nat.reduceLT, Nat.reduceLeDiff, Nat.reduceEqDiff, Nat.reduceAdd, Nat.reduceSub, ↓reduceIte, Bool.false_eq_true, List.map_cons, List.map_nil, List.length_cons, List.length_nil, List.replicate, List.cons_append, List.nil_append, List.getElem?_cons_zero, List.getElem?_cons_succ, List.set, List.take_succ_cons, List.take_zero, List.drop_succ_cons, List.drop_zero, List.reverse_cons, List.reverse_nil, Int.reduceLE, Int.reduceLT, Int.reduceNeg, Int.reduceToNat, true_and, and_true, and_self, beq_iff_eq, Bool.and_eq_true, Bool.or_eq_true, or_false, false_or, or_true, true_or, and_false, false_and, hu_hr, hr_hr, hr_at, hr_nc, not_false_eq_true, Int.reduceEq, Int.pow_zero, Int.reducePow, Int.reduceMul, Int.reduceAdd, Int.reduceDiv, Int.reduceMod, Int.zero_add, Int.add_zero, Int.mul_one, Int.cast_ofNat_Int, r1, r2, r3])
set_option maxHeartbeats 4000000 in
set_option maxRecDepth 100000 in
theorem c_pass {S : Hp} {t : Int} (hP : PmB S) (hne : ¬ nw S = sp S) (h0 : 0 ≤ S (nw S) 0 0 ∧ S (nw S) 0 0 ≤ 9999) (ht : tdR t) (hT : 1 ≤ t → S (nw S) 0 0 + t ≤ 9999 → ∀ j : Nat, (j : Int) < t → TcP (rvO (S (nw S)) j)) (hV : tdR (paW (S (nw S)) t)) (Q : Option MV → Hp → Prop) : Wc 74 [.inr (0, 23), .inl t] S Q = Q (some (.inl (paW (S (nw S)) t))) (edS (acS S (paO (S (nw S)) t)) (paW (S (nw S)) t)) := by
  refine Wc_eq ?_ Q
  unfold Wc
  have r1 := fun Q => c_beginAct (S := S) hne Q
  rw [ac_0 hne] at r1
  have r2 : ∀ Q : Option MV → Hp → Prop, Wc 26 [.inr (nw S, 0), .inl t] (acS S (S (nw S))) Q = Q (some (.inl (paW (S (nw S)) t))) (acS S (paO (S (nw S)) t)) := fun Q => c_passTicks (S := bgS S) (k := nw S) (O := S (nw S)) (t := t) h0 ht hT Q
  have r3 := fun Q => c_endAct (S := acS S (paO (S (nw S)) t)) (ac_P hP) hV Q
  refine vg_sound (fun _ _ => false) (fun m => m == 74) 60 _ _ _ _ _ _ ?_
  repeat' first | (with_reducible refine vT ?_ ?_; · omega) | (with_reducible refine vF ?_ ?_; · omega) | (with_reducible refine vI (fun _ => ?_) (fun _ => ?_)) | (simp (config := {maxSteps := 1000000}) (disch := (first | assumption | omega | (rw [hr_at]; assumption) | (rw [hr_at]; omega))) only [f_X7_pass, wg_0, wg_s, wK_none, wK_N, wK_C, wK_R, wQ_some, wQ_none, stR, mZ, mC, stI, ini, mL, gI, gA, sI, sA, bi, gF, pF, kF, kT, kL, c2, mT, mR, f4, tsw, lsw, tgt, inR, Nat.reduceLT, Nat.reduceLeDiff, Nat.reduceEqDiff, Nat.reduceAdd, Nat.reduceSub, ↓reduceIte, Bool.false_eq_true, List.map_cons, List.map_nil, List.length_cons, List.length_nil, List.replicate, List.cons_append, List.nil_append, List.getElem?_cons_zero, List.getElem?_cons_succ, List.set, List.take_succ_cons, List.take_zero, List.drop_succ_cons, List.drop_zero, List.reverse_cons, List.reverse_nil, Int.reduceLE, Int.reduceLT, Int.reduceNeg, Int.reduceToNat, true_and, and_true, and_self, beq_iff_eq, Bool.and_eq_true, Bool.or_eq_true, or_false, false_or, or_true, true_or, and_false, false_and, hu_hr, hr_hr, hr_at, hr_nc, not_false_eq_true, Int.reduceEq, Int.pow_zero, Int.reducePow, Int.reduceMul, Int.reduceAdd, Int.reduceDiv, Int.reduceMod, Int.zero_add, Int.add_zero, Int.mul_one, Int.cast_ofNat_Int, r1, r2, r3])
set_option maxHeartbeats 4000000 in
set_option maxRecDepth 100000 in
theorem c_set {S : Hp} {w v : Int} (hP : PmB S) (hne : ¬ nw S = sp S) (hw : tdR w) (hv : tdR v) (hm : ∀ w : Int, 0 ≤ w → w ≤ 2 → 0 ≤ S (nw S) 1 w ∧ S (nw S) 1 w ≤ 20) (hV : tdR (cgV (S (nw S)) w v)) (Q : Option MV → Hp → Prop) : Wc 75 [.inr (0, 23), .inl w, .inl v] S Q = Q (some (.inl (cgV (S (nw S)) w v))) (edS (acS S (cgO (S (nw S)) w v)) (cgV (S (nw S)) w v)) := by
  refine Wc_eq ?_ Q
  unfold Wc
  have r1 := fun Q => c_beginAct (S := S) hne Q
  rw [ac_0 hne] at r1
  have r2 : ∀ Q : Option MV → Hp → Prop, Wc 27 [.inr (nw S, 0), .inl w, .inl v] (acS S (S (nw S))) Q = Q (some (.inl (cgV (S (nw S)) w v))) (acS S (cgO (S (nw S)) w v)) := fun Q => c_changeSetting (S := bgS S) (k := nw S) (O := S (nw S)) (w := w) (v := v) hw hv hm Q
  have r3 := fun Q => c_endAct (S := acS S (cgO (S (nw S)) w v)) (ac_P hP) hV Q
  refine vg_sound (fun _ _ => false) (fun m => m == 75) 60 _ _ _ _ _ _ ?_
  repeat' first | (with_reducible refine vT ?_ ?_; · omega) | (with_reducible refine vF ?_ ?_; · omega) | (with_reducible refine vI (fun _ => ?_) (fun _ => ?_)) | (simp (config := {maxSteps := 1000000}) (disch := (first | assumption | omega | (rw [hr_at]; assumption) | (rw [hr_at]; omega))) only [f_X7_set, wg_0, wg_s, wK_none, wK_N, wK_C, wK_R, wQ_some, wQ_none, stR, mZ, mC, stI, ini, mL, gI, gA, sI, sA, bi, gF, pF, kF, kT, kL, c2, mT, mR, f4, tsw, lsw, tgt, inR, Nat.reduceLT, Nat.reduceLeDiff, Nat.reduceEqDiff, Nat.reduceAdd, Nat.reduceSub, ↓reduceIte, Bool.false_eq_true, List.map_cons, List.map_nil, List.length_cons, List.length_nil, List.replicate, List.cons_append, List.nil_append, List.getElem?_cons_zero, List.getElem?_cons_succ, List.set, List.take_succ_cons, List.take_zero, List.drop_succ_cons, List.drop_zero, List.reverse_cons, List.reverse_nil, Int.reduceLE, Int.reduceLT, Int.reduceNeg, Int.reduceToNat, true_and, and_true, and_self, beq_iff_eq, Bool.and_eq_true, Bool.or_eq_true, or_false, false_or, or_true, true_or, and_false, false_and, hu_hr, hr_hr, hr_at, hr_nc, not_false_eq_true, Int.reduceEq, Int.pow_zero, Int.reducePow, Int.reduceMul, Int.reduceAdd, Int.reduceDiv, Int.reduceMod, Int.zero_add, Int.add_zero, Int.mul_one, Int.cast_ofNat_Int, r1, r2, r3])
