/-! THE CLASS: the mail is brought -/
def dpO (O : Of) (kind w t : Int) : Of := if kind = 0 then tmO O w t else if kind = 1 then tqO O w t else if kind = 3 then tyO O w t else tnO O w t
def bmS (O : Of) (i : Int) : Of := if O 19 i ≤ O 0 0 then dpO O (O 20 i / 600 / 3) (O 20 i / 600 % 3) (O 20 i % 600) else O
def BmP (O : Of) (i : Int) : Prop := FxB O ∧ WnB O ∧ (0 ≤ O 18 0 ∧ O 18 0 < 149) ∧ (0 ≤ O 0 0 ∧ O 0 0 < 100000) ∧ (∀ t : Int, 0 ≤ t → t < 600 → 0 ≤ O 4 t ∧ O 4 t < 1000000) ∧ (∀ w : Int, 0 ≤ w → w < 3 → -5 ≤ O 12 w ∧ O 12 w < 600) ∧ (0 ≤ O 20 i ∧ O 20 i < 7200) ∧ (0 ≤ O 19 i ∧ O 19 i < 2147483648) ∧ ((0 ≤ O 21 0 ∧ O 21 0 ≤ 114) ∧ ∀ w t : Int, 0 ≤ w → w < 3 → 0 ≤ t → t < 600 → (fb (adO O t (5 + w).toNat) t (8 + w).toNat = 0 ∨ fb (adO O t (5 + w).toNat) t 2 = 1 ∨ O 21 0 < 114))
set_option maxHeartbeats 4000000 in
set_option maxRecDepth 100000 in
theorem bm_step {S : Hp} {k : Nat} {O : Of} {m z : Int} {y1 y2 : Option MV} {Q : Option MV → Hp → Prop} (hP : BmP O z) (hm : m ≤ 150) (hz : 0 ≤ z ∧ z < m) (h : ∀ y1 y2 : Option MV, Wp 29 10 [some (.inr (k, 0)), some (.inl m), some (.inl (z + 1)), y1, y2] [] (ho S k (bmS O z)) Q) : Wp 29 10 [some (.inr (k, 0)), some (.inl m), some (.inl z), y1, y2] [] (ho S k O) Q := by
  obtain ⟨hB, hW, hn, h0, h4, h12, h20, h19, h21⟩ := hP
  unfold bmS at h
  by_cases hd : O 19 z ≤ O 0 0
  · rw [if_pos hd] at h
    obtain ⟨w, hw⟩ : ∃ w, w = O 20 z / 600 % 3 := ⟨_, rfl⟩
    obtain ⟨t, ht⟩ : ∃ t, t = O 20 z % 600 := ⟨_, rfl⟩
    obtain ⟨kd, hk⟩ : ∃ kd, kd = O 20 z / 600 / 3 := ⟨_, rfl⟩
    rw [← hw, ← ht, ← hk] at h
    have hw1 : 0 ≤ w ∧ w < 3 := by omega
    have ht1 : 0 ≤ t ∧ t < 600 := by omega
    have fw := hw.symm
    have ft := ht.symm
    have hPy : PyP O t := ⟨hB, hW, hn, h0, h4 t ht1.1 ht1.2⟩
    have r1 := fun Q => c_takeMark (S := S) (k := k) (O := O) hB ⟨h21.1, h21.2 w t hw1.1 hw1.2 ht1.1 ht1.2⟩ hw1 ht1 Q
    have r2 := fun Q => c_takeQuestion (S := S) (k := k) (O := O) (a := w) hB (by omega) ht1 Q
    have r3 := fun Q => c_takeYes (S := S) (k := k) (O := O) hPy (h12 w hw1.1 hw1.2) hw1 ht1 Q
    have r4 := fun Q => c_takeNo (S := S) (k := k) (O := O) (h12 w hw1.1 hw1.2) hw1 ht1 Q
    unfold dpO at h
    rcases (show kd = 0 ∨ kd = 1 ∨ kd = 2 ∨ kd = 3 by omega) with g | g | g | g
    · rw [if_pos g] at h
      rw [g] at hk
      have fk := hk.symm
      refine vg_cut (fun m pc => (m == 29 && pc == 10)) (fun m => m == 29 || m == 15 || m == 17 || m == 18 || m == 16) 200 _ _ _ _ _ _ ?_
      repeat' first | (with_reducible refine vT ?_ ?_; · omega) | (with_reducible refine vF ?_ ?_; · omega) | (with_reducible refine vI (fun _ => ?_) (fun _ => ?_)) | (simp (config := {maxSteps := 1000000}) (disch := (first | assumption | omega | (rw [hr_at]; assumption) | (rw [hr_at]; omega) | (repeat' first | assumption | decide | omega | refine FxB_nc ?_ ?_ | refine adO_B ?_ ?_ | refine rmO_B ?_ ?_))) only [f_X3_bringMail, f_X2_isDue, f_X2_windowOfMessage, f_X2_ticketOfMessage, f_X2_kindOfMessage, wg_0, wg_s, wK_none, wK_N, wK_C, wK_R, wQ_some, wQ_none, stR, mZ, mC, stI, ini, mL, gI, gA, sI, sA, bi, gF, pF, kF, kT, kL, c2, mT, mR, f4, tsw, lsw, tgt, inR, Nat.reduceLT, Nat.reduceLeDiff, Nat.reduceEqDiff, Nat.reduceAdd, Nat.reduceSub, ↓reduceIte, Bool.false_eq_true, List.map_cons, List.map_nil, List.length_cons, List.length_nil, List.replicate, List.cons_append, List.nil_append, List.getElem?_cons_zero, List.getElem?_cons_succ, List.set, List.take_succ_cons, List.take_zero, List.drop_succ_cons, List.drop_zero, List.reverse_cons, List.reverse_nil, Int.reduceLE, Int.reduceLT, Int.reduceNeg, Int.reduceToNat, true_and, and_true, and_self, beq_iff_eq, Bool.and_eq_true, Bool.or_eq_true, or_false, false_or, or_true, true_or, and_false, false_and, hu_ho, ho_at, oc_at, oc_nc, oc_oc, adO_nc, rmO_nc, not_false_eq_true, Int.reduceEq, Int.pow_zero, Int.reducePow, Int.reduceMul, Int.reduceAdd, Int.reduceDiv, Int.reduceMod, Int.zero_add, Int.add_zero, Int.mul_one, Int.cast_ofNat_Int, fw, ft, fk, r1])
      exact h _ _
    · rw [if_neg (by omega), if_pos g] at h
      rw [g] at hk
      have fk := hk.symm
      refine vg_cut (fun m pc => (m == 29 && pc == 10)) (fun m => m == 29 || m == 15 || m == 17 || m == 18 || m == 16) 200 _ _ _ _ _ _ ?_
      repeat' first | (with_reducible refine vT ?_ ?_; · omega) | (with_reducible refine vF ?_ ?_; · omega) | (with_reducible refine vI (fun _ => ?_) (fun _ => ?_)) | (simp (config := {maxSteps := 1000000}) (disch := (first | assumption | omega | (rw [hr_at]; assumption) | (rw [hr_at]; omega) | (repeat' first | assumption | decide | omega | refine FxB_nc ?_ ?_ | refine adO_B ?_ ?_ | refine rmO_B ?_ ?_))) only [f_X3_bringMail, f_X2_isDue, f_X2_windowOfMessage, f_X2_ticketOfMessage, f_X2_kindOfMessage, wg_0, wg_s, wK_none, wK_N, wK_C, wK_R, wQ_some, wQ_none, stR, mZ, mC, stI, ini, mL, gI, gA, sI, sA, bi, gF, pF, kF, kT, kL, c2, mT, mR, f4, tsw, lsw, tgt, inR, Nat.reduceLT, Nat.reduceLeDiff, Nat.reduceEqDiff, Nat.reduceAdd, Nat.reduceSub, ↓reduceIte, Bool.false_eq_true, List.map_cons, List.map_nil, List.length_cons, List.length_nil, List.replicate, List.cons_append, List.nil_append, List.getElem?_cons_zero, List.getElem?_cons_succ, List.set, List.take_succ_cons, List.take_zero, List.drop_succ_cons, List.drop_zero, List.reverse_cons, List.reverse_nil, Int.reduceLE, Int.reduceLT, Int.reduceNeg, Int.reduceToNat, true_and, and_true, and_self, beq_iff_eq, Bool.and_eq_true, Bool.or_eq_true, or_false, false_or, or_true, true_or, and_false, false_and, hu_ho, ho_at, oc_at, oc_nc, oc_oc, adO_nc, rmO_nc, not_false_eq_true, Int.reduceEq, Int.pow_zero, Int.reducePow, Int.reduceMul, Int.reduceAdd, Int.reduceDiv, Int.reduceMod, Int.zero_add, Int.add_zero, Int.mul_one, Int.cast_ofNat_Int, fw, ft, fk, r2])
      exact h _ _
    · rw [if_neg (by omega), if_neg (by omega), if_neg (by omega)] at h
      rw [g] at hk
      have fk := hk.symm
      refine vg_cut (fun m pc => (m == 29 && pc == 10)) (fun m => m == 29 || m == 15 || m == 17 || m == 18 || m == 16) 200 _ _ _ _ _ _ ?_
      repeat' first | (with_reducible refine vT ?_ ?_; · omega) | (with_reducible refine vF ?_ ?_; · omega) | (with_reducible refine vI (fun _ => ?_) (fun _ => ?_)) | (simp (config := {maxSteps := 1000000}) (disch := (first | assumption | omega | (rw [hr_at]; assumption) | (rw [hr_at]; omega) | (repeat' first | assumption | decide | omega | refine FxB_nc ?_ ?_ | refine adO_B ?_ ?_ | refine rmO_B ?_ ?_))) only [f_X3_bringMail, f_X2_isDue, f_X2_windowOfMessage, f_X2_ticketOfMessage, f_X2_kindOfMessage, wg_0, wg_s, wK_none, wK_N, wK_C, wK_R, wQ_some, wQ_none, stR, mZ, mC, stI, ini, mL, gI, gA, sI, sA, bi, gF, pF, kF, kT, kL, c2, mT, mR, f4, tsw, lsw, tgt, inR, Nat.reduceLT, Nat.reduceLeDiff, Nat.reduceEqDiff, Nat.reduceAdd, Nat.reduceSub, ↓reduceIte, Bool.false_eq_true, List.map_cons, List.map_nil, List.length_cons, List.length_nil, List.replicate, List.cons_append, List.nil_append, List.getElem?_cons_zero, List.getElem?_cons_succ, List.set, List.take_succ_cons, List.take_zero, List.drop_succ_cons, List.drop_zero, List.reverse_cons, List.reverse_nil, Int.reduceLE, Int.reduceLT, Int.reduceNeg, Int.reduceToNat, true_and, and_true, and_self, beq_iff_eq, Bool.and_eq_true, Bool.or_eq_true, or_false, false_or, or_true, true_or, and_false, false_and, hu_ho, ho_at, oc_at, oc_nc, oc_oc, adO_nc, rmO_nc, not_false_eq_true, Int.reduceEq, Int.pow_zero, Int.reducePow, Int.reduceMul, Int.reduceAdd, Int.reduceDiv, Int.reduceMod, Int.zero_add, Int.add_zero, Int.mul_one, Int.cast_ofNat_Int, fw, ft, fk, r4])
      exact h _ _
    · rw [if_neg (by omega), if_neg (by omega), if_pos g] at h
      rw [g] at hk
      have fk := hk.symm
      refine vg_cut (fun m pc => (m == 29 && pc == 10)) (fun m => m == 29 || m == 15 || m == 17 || m == 18 || m == 16) 200 _ _ _ _ _ _ ?_
      repeat' first | (with_reducible refine vT ?_ ?_; · omega) | (with_reducible refine vF ?_ ?_; · omega) | (with_reducible refine vI (fun _ => ?_) (fun _ => ?_)) | (simp (config := {maxSteps := 1000000}) (disch := (first | assumption | omega | (rw [hr_at]; assumption) | (rw [hr_at]; omega) | (repeat' first | assumption | decide | omega | refine FxB_nc ?_ ?_ | refine adO_B ?_ ?_ | refine rmO_B ?_ ?_))) only [f_X3_bringMail, f_X2_isDue, f_X2_windowOfMessage, f_X2_ticketOfMessage, f_X2_kindOfMessage, wg_0, wg_s, wK_none, wK_N, wK_C, wK_R, wQ_some, wQ_none, stR, mZ, mC, stI, ini, mL, gI, gA, sI, sA, bi, gF, pF, kF, kT, kL, c2, mT, mR, f4, tsw, lsw, tgt, inR, Nat.reduceLT, Nat.reduceLeDiff, Nat.reduceEqDiff, Nat.reduceAdd, Nat.reduceSub, ↓reduceIte, Bool.false_eq_true, List.map_cons, List.map_nil, List.length_cons, List.length_nil, List.replicate, List.cons_append, List.nil_append, List.getElem?_cons_zero, List.getElem?_cons_succ, List.set, List.take_succ_cons, List.take_zero, List.drop_succ_cons, List.drop_zero, List.reverse_cons, List.reverse_nil, Int.reduceLE, Int.reduceLT, Int.reduceNeg, Int.reduceToNat, true_and, and_true, and_self, beq_iff_eq, Bool.and_eq_true, Bool.or_eq_true, or_false, false_or, or_true, true_or, and_false, false_and, hu_ho, ho_at, oc_at, oc_nc, oc_oc, adO_nc, rmO_nc, not_false_eq_true, Int.reduceEq, Int.pow_zero, Int.reducePow, Int.reduceMul, Int.reduceAdd, Int.reduceDiv, Int.reduceMod, Int.zero_add, Int.add_zero, Int.mul_one, Int.cast_ofNat_Int, fw, ft, fk, r3])
      exact h _ _
  · rw [if_neg hd] at h
    refine vg_cut (fun m pc => (m == 29 && pc == 10)) (fun m => m == 29 || m == 15) 200 _ _ _ _ _ _ ?_
    repeat' first | (with_reducible refine vT ?_ ?_; · omega) | (with_reducible refine vF ?_ ?_; · omega) | (with_reducible refine vI (fun _ => ?_) (fun _ => ?_)) | (simp (config := {maxSteps := 1000000}) (disch := (first | assumption | omega | (rw [hr_at]; assumption) | (rw [hr_at]; omega) | (repeat' first | assumption | decide | omega | refine FxB_nc ?_ ?_ | refine adO_B ?_ ?_ | refine rmO_B ?_ ?_))) only [f_X3_bringMail, f_X2_isDue, wg_0, wg_s, wK_none, wK_N, wK_C, wK_R, wQ_some, wQ_none, stR, mZ, mC, stI, ini, mL, gI, gA, sI, sA, bi, gF, pF, kF, kT, kL, c2, mT, mR, f4, tsw, lsw, tgt, inR, Nat.reduceLT, Nat.reduceLeDiff, Nat.reduceEqDiff, Nat.reduceAdd, Nat.reduceSub, ↓reduceIte, Bool.false_eq_true, List.map_cons, List.map_nil, List.length_cons, List.length_nil, List.replicate, List.cons_append, List.nil_append, List.getElem?_cons_zero, List.getElem?_cons_succ, List.set, List.take_succ_cons, List.take_zero, List.drop_succ_cons, List.drop_zero, List.reverse_cons, List.reverse_nil, Int.reduceLE, Int.reduceLT, Int.reduceNeg, Int.reduceToNat, true_and, and_true, and_self, beq_iff_eq, Bool.and_eq_true, Bool.or_eq_true, or_false, false_or, or_true, true_or, and_false, false_and, hu_ho, ho_at, oc_at, oc_nc, oc_oc, adO_nc, rmO_nc, not_false_eq_true, Int.reduceEq, Int.pow_zero, Int.reducePow, Int.reduceMul, Int.reduceAdd, Int.reduceDiv, Int.reduceMod, Int.zero_add, Int.add_zero, Int.mul_one, Int.cast_ofNat_Int])
    exact h _ _
/- those due are dropped -/
def ddO (O : Of) (T : Int) : Nat → Of × Int
  | 0 => (O, 0)
  | j + 1 => (if T < (ddO O T j).1 19 j then oc (oc (ddO O T j).1 19 (up ((ddO O T j).1 19) (ddO O T j).2 ((ddO O T j).1 19 j))) 20 (up ((ddO O T j).1 20) (ddO O T j).2 ((ddO O T j).1 20 j)) else (ddO O T j).1, if T < (ddO O T j).1 19 j then (ddO O T j).2 + 1 else (ddO O T j).2)
set_option maxHeartbeats 4000000 in
set_option maxRecDepth 100000 in
theorem dd_step {S : Hp} {k : Nat} {O : Of} {T s z : Int} {Q : Option MV → Hp → Prop} (hT : 0 ≤ T ∧ T < 100000) (hn : 0 ≤ O 18 0 ∧ O 18 0 ≤ 150) (hs : 0 ≤ s ∧ s ≤ z) (hz : 0 ≤ z ∧ z < O 18 0) (h19 : 0 ≤ O 19 z ∧ O 19 z < 2147483648) (h : Wp 19 4 [some (.inr (k, 18)), some (.inl T), some (.inl (if T < O 19 z then s + 1 else s)), some (.inl (z + 1))] [] (ho S k (if T < O 19 z then oc (oc O 19 (up (O 19) s (O 19 z))) 20 (up (O 20) s (O 20 z)) else O)) Q) : Wp 19 4 [some (.inr (k, 18)), some (.inl T), some (.inl s), some (.inl z)] [] (ho S k O) Q := by
  by_cases hc : T < O 19 z
  · rw [if_pos hc, if_pos hc] at h
    refine vg_cut (fun m pc => (m == 19 && pc == 4)) (fun m => m == 19) 60 _ _ _ _ _ _ ?_
    repeat' first | (with_reducible refine vT ?_ ?_; · omega) | (with_reducible refine vF ?_ ?_; · omega) | (with_reducible refine vI (fun _ => ?_) (fun _ => ?_)) | (simp (config := {maxSteps := 1000000}) (disch := (first | assumption | omega | (rw [hr_at]; assumption) | (rw [hr_at]; omega) | (repeat' first | assumption | decide | omega | refine FxB_nc ?_ ?_ | refine adO_B ?_ ?_ | refine rmO_B ?_ ?_))) only [f_X2_dropDue, wg_0, wg_s, wK_none, wK_N, wK_C, wK_R, wQ_some, wQ_none, stR, mZ, mC, stI, ini, mL, gI, gA, sI, sA, bi, gF, pF, kF, kT, kL, c2, mT, mR, f4, tsw, lsw, tgt, inR, Nat.reduceLT, Nat.reduceLeDiff, Nat.reduceEqDiff, Nat.reduceAdd, Nat.reduceSub, ↓reduceIte, Bool.false_eq_true, List.map_cons, List.map_nil, List.length_cons, List.length_nil, List.replicate, List.cons_append, List.nil_append, List.getElem?_cons_zero, List.getElem?_cons_succ, List.set, List.take_succ_cons, List.take_zero, List.drop_succ_cons, List.drop_zero, List.reverse_cons, List.reverse_nil, Int.reduceLE, Int.reduceLT, Int.reduceNeg, Int.reduceToNat, true_and, and_true, and_self, beq_iff_eq, Bool.and_eq_true, Bool.or_eq_true, or_false, false_or, or_true, true_or, and_false, false_and, hu_ho, ho_at, oc_at, oc_nc, oc_oc, adO_nc, rmO_nc, not_false_eq_true, Int.reduceEq, Int.pow_zero, Int.reducePow, Int.reduceMul, Int.reduceAdd, Int.reduceDiv, Int.reduceMod, Int.zero_add, Int.add_zero, Int.mul_one, Int.cast_ofNat_Int])
    exact h
  · rw [if_neg hc, if_neg hc] at h
    refine vg_cut (fun m pc => (m == 19 && pc == 4)) (fun m => m == 19) 60 _ _ _ _ _ _ ?_
    repeat' first | (with_reducible refine vT ?_ ?_; · omega) | (with_reducible refine vF ?_ ?_; · omega) | (with_reducible refine vI (fun _ => ?_) (fun _ => ?_)) | (simp (config := {maxSteps := 1000000}) (disch := (first | assumption | omega | (rw [hr_at]; assumption) | (rw [hr_at]; omega) | (repeat' first | assumption | decide | omega | refine FxB_nc ?_ ?_ | refine adO_B ?_ ?_ | refine rmO_B ?_ ?_))) only [f_X2_dropDue, wg_0, wg_s, wK_none, wK_N, wK_C, wK_R, wQ_some, wQ_none, stR, mZ, mC, stI, ini, mL, gI, gA, sI, sA, bi, gF, pF, kF, kT, kL, c2, mT, mR, f4, tsw, lsw, tgt, inR, Nat.reduceLT, Nat.reduceLeDiff, Nat.reduceEqDiff, Nat.reduceAdd, Nat.reduceSub, ↓reduceIte, Bool.false_eq_true, List.map_cons, List.map_nil, List.length_cons, List.length_nil, List.replicate, List.cons_append, List.nil_append, List.getElem?_cons_zero, List.getElem?_cons_succ, List.set, List.take_succ_cons, List.take_zero, List.drop_succ_cons, List.drop_zero, List.reverse_cons, List.reverse_nil, Int.reduceLE, Int.reduceLT, Int.reduceNeg, Int.reduceToNat, true_and, and_true, and_self, beq_iff_eq, Bool.and_eq_true, Bool.or_eq_true, or_false, false_or, or_true, true_or, and_false, false_and, hu_ho, ho_at, oc_at, oc_nc, oc_oc, adO_nc, rmO_nc, not_false_eq_true, Int.reduceEq, Int.pow_zero, Int.reducePow, Int.reduceMul, Int.reduceAdd, Int.reduceDiv, Int.reduceMod, Int.zero_add, Int.add_zero, Int.mul_one, Int.cast_ofNat_Int])
    exact h
set_option maxHeartbeats 4000000 in
set_option maxRecDepth 100000 in
theorem dd_end {S : Hp} {k : Nat} {O : Of} {T s z : Int} {Q : Option MV → Hp → Prop} (hn : 0 ≤ O 18 0 ∧ O 18 0 ≤ 150) (hz : z = O 18 0) (h : Q none (ho S k (oc O 18 (up (O 18) 0 s)))) : Wp 19 4 [some (.inr (k, 18)), some (.inl T), some (.inl s), some (.inl z)] [] (ho S k O) Q := by
  refine vg_cut (fun m pc => (m == 19 && pc == 4)) (fun m => m == 19) 60 _ _ _ _ _ _ ?_
  repeat' first | (with_reducible refine vT ?_ ?_; · omega) | (with_reducible refine vF ?_ ?_; · omega) | (with_reducible refine vI (fun _ => ?_) (fun _ => ?_)) | (simp (config := {maxSteps := 1000000}) (disch := (first | assumption | omega | (rw [hr_at]; assumption) | (rw [hr_at]; omega) | (repeat' first | assumption | decide | omega | refine FxB_nc ?_ ?_ | refine adO_B ?_ ?_ | refine rmO_B ?_ ?_))) only [f_X2_dropDue, wg_0, wg_s, wK_none, wK_N, wK_C, wK_R, wQ_some, wQ_none, stR, mZ, mC, stI, ini, mL, gI, gA, sI, sA, bi, gF, pF, kF, kT, kL, c2, mT, mR, f4, tsw, lsw, tgt, inR, Nat.reduceLT, Nat.reduceLeDiff, Nat.reduceEqDiff, Nat.reduceAdd, Nat.reduceSub, ↓reduceIte, Bool.false_eq_true, List.map_cons, List.map_nil, List.length_cons, List.length_nil, List.replicate, List.cons_append, List.nil_append, List.getElem?_cons_zero, List.getElem?_cons_succ, List.set, List.take_succ_cons, List.take_zero, List.drop_succ_cons, List.drop_zero, List.reverse_cons, List.reverse_nil, Int.reduceLE, Int.reduceLT, Int.reduceNeg, Int.reduceToNat, true_and, and_true, and_self, beq_iff_eq, Bool.and_eq_true, Bool.or_eq_true, or_false, false_or, or_true, true_or, and_false, false_and, hu_ho, ho_at, oc_at, oc_nc, oc_oc, adO_nc, rmO_nc, not_false_eq_true, Int.reduceEq, Int.pow_zero, Int.reducePow, Int.reduceMul, Int.reduceAdd, Int.reduceDiv, Int.reduceMod, Int.zero_add, Int.add_zero, Int.mul_one, Int.cast_ofNat_Int])
  exact h
set_option maxHeartbeats 4000000 in
set_option maxRecDepth 100000 in
theorem ddO_nc {O : Of} {T : Int} {c : Nat} (h : ¬ c = 19 ∧ ¬ c = 20) : ∀ j, (ddO O T j).1 c = O c
  | 0 => rfl
  | j + 1 => by
    unfold ddO
    dsimp only
    split
    · rw [oc_nc h.2, oc_nc h.1, ddO_nc h j]
    · exact ddO_nc h j
set_option maxHeartbeats 4000000 in
set_option maxRecDepth 100000 in
theorem ddO_b {O : Of} {T : Int} : ∀ j : Nat, 0 ≤ (ddO O T j).2 ∧ (ddO O T j).2 ≤ j
  | 0 => ⟨Int.le_refl _, Int.le_refl _⟩
  | j + 1 => by
    have h := ddO_b (O := O) (T := T) j
    unfold ddO
    dsimp only
    split <;> omega
/- what lies at a place and behind is as it was -/
set_option maxHeartbeats 4000000 in
set_option maxRecDepth 100000 in
theorem ddO_hi {O : Of} {T : Int} : ∀ (j : Nat) (i : Int), (j : Int) ≤ i → (ddO O T j).1 19 i = O 19 i ∧ (ddO O T j).1 20 i = O 20 i
  | 0, i, _ => ⟨rfl, rfl⟩
  | j + 1, i, h => by
    have hi := ddO_hi (O := O) (T := T) j i (by omega)
    have hb := ddO_b (O := O) (T := T) j
    unfold ddO
    dsimp only
    split
    · rw [oc_nc (by decide), oc_at, oc_at, up_ne (by omega), up_ne (by omega)]
      exact hi
    · exact hi
set_option maxHeartbeats 4000000 in
set_option maxRecDepth 100000 in
theorem c_dropDue {S : Hp} {k : Nat} {O : Of} {T : Int} {N : Nat} (hN : O 18 0 = N) (hN2 : N ≤ 150) (hT : 0 ≤ T ∧ T < 100000) (h19 : ∀ i : Int, 0 ≤ i → i < O 18 0 → 0 ≤ O 19 i ∧ O 19 i < 2147483648) (Q : Option MV → Hp → Prop) : Wc 19 [.inr (k, 18), .inl T] (ho S k O) Q = Q none (ho S k (oc (ddO O T N).1 18 (up (O 18) 0 (ddO O T N).2))) := by
  refine Wc_eq ?_ Q
  unfold Wc
  refine vg_sound (fun m pc => (m == 19 && pc == 4)) (fun m => m == 19) 10 _ _ _ _ _ _ ?_
  repeat' first | (with_reducible refine vT ?_ ?_; · omega) | (with_reducible refine vF ?_ ?_; · omega) | (with_reducible refine vI (fun _ => ?_) (fun _ => ?_)) | (simp (config := {maxSteps := 1000000}) only [f_X2_dropDue, wg_0, wg_s, wK_none, wK_N, wK_C, wK_R, wQ_some, wQ_none, stR, mZ, mC, stI, ini, mL, gI, gA, sI, sA, bi, gF, pF, kF, kT, kL, c2, mT, mR, f4, tsw, lsw, tgt, inR, Nat.reduceLT, Nat.reduceLeDiff, Nat.reduceEqDiff, Nat.reduceAdd, Nat.reduceSub, ↓reduceIte, Bool.false_eq_true, List.map_cons, List.map_nil, List.length_cons, List.length_nil, List.replicate, List.cons_append, List.nil_append, List.getElem?_cons_zero, List.getElem?_cons_succ, List.set, List.take_succ_cons, List.take_zero, List.drop_succ_cons, List.drop_zero, List.reverse_cons, List.reverse_nil, Int.reduceLE, Int.reduceLT, Int.reduceNeg, Int.reduceToNat, true_and, and_true, and_self, beq_iff_eq, Bool.and_eq_true, Bool.or_eq_true, or_false, false_or, or_true, true_or, and_false, false_and, hu_ho, ho_at, oc_at, oc_nc, oc_oc, adO_nc, rmO_nc, not_false_eq_true, Int.reduceEq, Int.pow_zero, Int.reducePow, Int.reduceMul, Int.reduceAdd, Int.reduceDiv, Int.reduceMod, Int.zero_add, Int.add_zero, Int.mul_one, Int.cast_ofNat_Int])
  refine wp_for (fun j => [some (.inr (k, 18)), some (.inl T), some (.inl (ddO O T j).2), some (.inl (j : Int))]) (fun j => ho S k (ddO O T j).1) N rfl rfl (fun j hj h => ?_) ?_
  · have e18 : (ddO O T j).1 18 = O 18 := ddO_nc (by decide) j
    refine dd_step hT (by rw [e18]; omega) (ddO_b j) (by rw [e18]; omega) (by rw [(ddO_hi j j (Int.le_refl _)).1]; exact h19 j (by omega) (by omega)) ?_
    rw [Int.natCast_add] at h
    exact h
  · have e18 : (ddO O T N).1 18 = O 18 := ddO_nc (by decide) N
    refine dd_end (by rw [e18]; omega) (by rw [e18]; omega) ?_
    rw [e18]
    exact ⟨rfl, rfl⟩
def bmI (O : Of) : Nat → Of
  | 0 => O
  | j + 1 => bmS (bmI O j) j
def bmO (O : Of) (N N2 : Nat) : Of := oc (ddO (bmI O N) (bmI O N 0 0) N2).1 18 (up (bmI O N 18) 0 (ddO (bmI O N) (bmI O N 0 0) N2).2)
set_option maxHeartbeats 4000000 in
set_option maxRecDepth 100000 in
theorem bm_end {S T : Hp} {k : Nat} {O : Of} {m z : Int} {y1 y2 : Option MV} {Q : Option MV → Hp → Prop} (hm : 0 ≤ m ∧ m ≤ 150) (hz : z = m) (hr : ∀ Q : Option MV → Hp → Prop, Wc 19 [.inr (k, 18), .inl (O 0 0)] (ho S k O) Q = Q none T) (h : Q none T) : Wp 29 10 [some (.inr (k, 0)), some (.inl m), some (.inl z), y1, y2] [] (ho S k O) Q := by
  refine vg_cut (fun m pc => (m == 29 && pc == 10)) (fun m => m == 29) 60 _ _ _ _ _ _ ?_
  repeat' first | (with_reducible refine vT ?_ ?_; · omega) | (with_reducible refine vF ?_ ?_; · omega) | (with_reducible refine vI (fun _ => ?_) (fun _ => ?_)) | (simp (config := {maxSteps := 1000000}) (disch := (first | assumption | omega | (rw [hr_at]; assumption) | (rw [hr_at]; omega) | (repeat' first | assumption | decide | omega | refine FxB_nc ?_ ?_ | refine adO_B ?_ ?_ | refine rmO_B ?_ ?_))) only [f_X3_bringMail, wg_0, wg_s, wK_none, wK_N, wK_C, wK_R, wQ_some, wQ_none, stR, mZ, mC, stI, ini, mL, gI, gA, sI, sA, bi, gF, pF, kF, kT, kL, c2, mT, mR, f4, tsw, lsw, tgt, inR, Nat.reduceLT, Nat.reduceLeDiff, Nat.reduceEqDiff, Nat.reduceAdd, Nat.reduceSub, ↓reduceIte, Bool.false_eq_true, List.map_cons, List.map_nil, List.length_cons, List.length_nil, List.replicate, List.cons_append, List.nil_append, List.getElem?_cons_zero, List.getElem?_cons_succ, List.set, List.take_succ_cons, List.take_zero, List.drop_succ_cons, List.drop_zero, List.reverse_cons, List.reverse_nil, Int.reduceLE, Int.reduceLT, Int.reduceNeg, Int.reduceToNat, true_and, and_true, and_self, beq_iff_eq, Bool.and_eq_true, Bool.or_eq_true, or_false, false_or, or_true, true_or, and_false, false_and, hu_ho, ho_at, oc_at, oc_nc, oc_oc, adO_nc, rmO_nc, not_false_eq_true, Int.reduceEq, Int.pow_zero, Int.reducePow, Int.reduceMul, Int.reduceAdd, Int.reduceDiv, Int.reduceMod, Int.zero_add, Int.add_zero, Int.mul_one, Int.cast_ofNat_Int, hr])
  exact h
set_option maxHeartbeats 4000000 in
set_option maxRecDepth 100000 in
theorem c_bringMail {S : Hp} {k : Nat} {O : Of} {N N2 : Nat} (hN : O 18 0 = N) (hN1 : N ≤ 150) (hP : ∀ j : Nat, j < N → BmP (bmI O j) j) (hN2 : bmI O N 18 0 = N2) (hN3 : N2 ≤ 150) (h0 : 0 ≤ bmI O N 0 0 ∧ bmI O N 0 0 < 100000) (h19 : ∀ i : Int, 0 ≤ i → i < bmI O N 18 0 → 0 ≤ bmI O N 19 i ∧ bmI O N 19 i < 2147483648) (Q : Option MV → Hp → Prop) : Wc 29 [.inr (k, 0)] (ho S k O) Q = Q none (ho S k (bmO O N N2)) := by
  refine Wc_eq ?_ Q
  unfold Wc
  refine vg_sound (fun m pc => (m == 29 && pc == 10)) (fun m => m == 29) 10 _ _ _ _ _ _ ?_
  repeat' first | (with_reducible refine vT ?_ ?_; · omega) | (with_reducible refine vF ?_ ?_; · omega) | (with_reducible refine vI (fun _ => ?_) (fun _ => ?_)) | (simp (config := {maxSteps := 1000000}) only [f_X3_bringMail, wg_0, wg_s, wK_none, wK_N, wK_C, wK_R, wQ_some, wQ_none, stR, mZ, mC, stI, ini, mL, gI, gA, sI, sA, bi, gF, pF, kF, kT, kL, c2, mT, mR, f4, tsw, lsw, tgt, inR, Nat.reduceLT, Nat.reduceLeDiff, Nat.reduceEqDiff, Nat.reduceAdd, Nat.reduceSub, ↓reduceIte, Bool.false_eq_true, List.map_cons, List.map_nil, List.length_cons, List.length_nil, List.replicate, List.cons_append, List.nil_append, List.getElem?_cons_zero, List.getElem?_cons_succ, List.set, List.take_succ_cons, List.take_zero, List.drop_succ_cons, List.drop_zero, List.reverse_cons, List.reverse_nil, Int.reduceLE, Int.reduceLT, Int.reduceNeg, Int.reduceToNat, true_and, and_true, and_self, beq_iff_eq, Bool.and_eq_true, Bool.or_eq_true, or_false, false_or, or_true, true_or, and_false, false_and, hu_ho, ho_at, oc_at, oc_nc, oc_oc, adO_nc, rmO_nc, not_false_eq_true, Int.reduceEq, Int.pow_zero, Int.reducePow, Int.reduceMul, Int.reduceAdd, Int.reduceDiv, Int.reduceMod, Int.zero_add, Int.add_zero, Int.mul_one, Int.cast_ofNat_Int])
  have key : ∀ d j : Nat, j + d = N → ∀ y1 y2 : Option MV, Wp 29 10 [some (.inr (k, 0)), some (.inl (O 18 0)), some (.inl (j : Int)), y1, y2] [] (ho S k (bmI O j)) (fun r T => r = none ∧ T = ho S k (bmO O N N2)) := by
    intro d
    induction d with
    | zero =>
      intro j hj y1 y2
      obtain rfl : j = N := by omega
      have r1 := fun Q => c_dropDue (S := S) (k := k) (O := bmI O j) (T := bmI O j 0 0) hN2 hN3 h0 h19 Q
      exact bm_end (by omega) hN.symm r1 ⟨rfl, rfl⟩
    | succ d ih =>
      intro j hj y1 y2
      refine bm_step (hP j (by omega)) (by omega) (by omega) (fun y1 y2 => ?_)
      have h1 := ih (j + 1) (by omega) y1 y2
      rw [Int.natCast_add] at h1
      exact h1
  exact key N 0 (by omega) _ _
