/-! THE CLASS: rules tried -/
def rlO (X P : Of) (r : Int) : Of := oc (cpO X P) 1 (up (cpO X P 1) 0 r)
def ruO (X P : Of) (r : Int) (n : Nat) : Of := rvO (rlO X P r) n
set_option maxHeartbeats 4000000 in
set_option maxRecDepth 100000 in
theorem c_runWithRule {S : Hp} {X : Of} {r t : Int} (hne : ¬ nw S = sp S) (ht : 0 ≤ t ∧ t ≤ 99) (hT : ∀ j : Nat, (j : Int) < t → TcP (ruO X (S (nw S)) r j)) (Q : Option MV → Hp → Prop) : Wc 89 [.inr (0, 23), .inl r, .inl t] (ho S (sp S) X) Q = Q (some (.inr (sp S, 0))) (ho S (sp S) (ruO X (S (nw S)) r t.toNat)) := by
  refine Wc_eq ?_ Q
  unfold Wc
  have r1 := fun Q => c_copyFrom (S := S) (a := sp S) (b := nw S) (O := X) hne Q
  have r2 := fun Q => c_runTicks (S := S) (k := sp S) (O := rlO X (S (nw S)) r) (t := t) ht hT Q
  have e0 : (S 0 23 0).toNat = nw S := rfl
  have e1 : (S 0 23 1).toNat = sp S := rfl
  have e3 : oc (cpO X (S (nw S))) 1 (up (cpO X (S (nw S)) 1) 0 r) = rlO X (S (nw S)) r := rfl
  have e4 : rvO (rlO X (S (nw S)) r) t.toNat = ruO X (S (nw S)) r t.toNat := rfl
  rw [e4] at r2
  have e5 : ∀ O : Of, ho S (sp S) O 0 23 = S 0 23 := fun O => by rw [ho_nc (by decide)]
  refine vg_sound (fun _ _ => false) (fun m => m == 89) 60 _ _ _ _ _ _ ?_
  repeat' first | (with_reducible refine vT ?_ ?_; · omega) | (with_reducible refine vF ?_ ?_; · omega) | (with_reducible refine vI (fun _ => ?_) (fun _ => ?_)) | (simp (config := {maxSteps := 1000000}) (disch := (first | assumption | omega | (rw [hr_at]; assumption) | (rw [hr_at]; omega) | (repeat' first | assumption | decide | omega | refine FxB_nc ?_ ?_ | refine adO_B ?_ ?_ | refine rmO_B ?_ ?_))) only [f_X7_runWithRule, wg_0, wg_s, wK_none, wK_N, wK_C, wK_R, wQ_some, wQ_none, stR, mZ, mC, stI, ini, mL, gI, gA, sI, sA, bi, gF, pF, kF, kT, kL, c2, mT, mR, f4, tsw, lsw, tgt, inR, Nat.reduceLT, Nat.reduceLeDiff, Nat.reduceEqDiff, Nat.reduceAdd, Nat.reduceSub, ↓reduceIte, Bool.false_eq_true, List.map_cons, List.map_nil, List.length_cons, List.length_nil, List.replicate, List.cons_append, List.nil_append, List.getElem?_cons_zero, List.getElem?_cons_succ, List.set, List.take_succ_cons, List.take_zero, List.drop_succ_cons, List.drop_zero, List.reverse_cons, List.reverse_nil, Int.reduceLE, Int.reduceLT, Int.reduceNeg, Int.reduceToNat, true_and, and_true, and_self, beq_iff_eq, Bool.and_eq_true, Bool.or_eq_true, or_false, false_or, or_true, true_or, and_false, false_and, hu_ho, ho_at, oc_at, oc_nc, oc_oc, adO_nc, rmO_nc, not_false_eq_true, Int.reduceEq, Int.pow_zero, Int.reducePow, Int.reduceMul, Int.reduceAdd, Int.reduceDiv, Int.reduceMod, Int.zero_add, Int.add_zero, Int.mul_one, Int.cast_ofNat_Int, e5, e0, e1, e3, r1, r2])
def irW (P N : Of) (a : Int) : Int := if a = 0 then s3 (P 15) - s3 (N 15) else if a = 1 then P 0 8 else if a = 2 then s3 (P 16) - s3 (N 16) else cbW P - cbW N + 100000
set_option maxHeartbeats 4000000 in
set_option maxRecDepth 100000 in
theorem c_ifRule {S : Hp} {r t a : Int} (hne : ¬ nw S = sp S) (hr0 : tdR r) (ht : tdR t) (ha : tdR a) (hT : (0 ≤ r ∧ r ≤ 2) → ∀ j : Nat, j < 99 → TcP (ruO (S (sp S)) (S (nw S)) r j)) (Q : Option MV → Hp → Prop) : Wc 83 [.inr (0, 23), .inl r, .inl t, .inl a] S Q = Q (some (.inl (if (0 ≤ r ∧ r ≤ 2) ∧ (1 ≤ t ∧ t ≤ 99) ∧ 0 ≤ a ∧ a ≤ 3 then irW (ruO (S (sp S)) (S (nw S)) r t.toNat) (S (nw S)) a else -2))) (if (0 ≤ r ∧ r ≤ 2) ∧ (1 ≤ t ∧ t ≤ 99) ∧ 0 ≤ a ∧ a ≤ 3 then ho S (sp S) (ruO (S (sp S)) (S (nw S)) r t.toNat) else S) := by
  refine Wc_eq ?_ Q
  unfold Wc
  unfold tdR at hr0 ht ha
  have s37 : sv 37 0 = 0 := rfl
  have s38 : sv 38 0 = 2 := rfl
  by_cases h : (0 ≤ r ∧ r ≤ 2) ∧ (1 ≤ t ∧ t ≤ 99) ∧ 0 ≤ a ∧ a ≤ 3
  · rw [if_pos h, if_pos h]
    obtain ⟨h1, h2, h3⟩ := h
    have r1 := fun Q => c_runWithRule (S := S) (X := S (sp S)) (r := r) (t := t) hne (by omega) (fun j hj => hT h1 j (by omega)) Q
    rw [ho_id] at r1
    generalize ruO (S (sp S)) (S (nw S)) r t.toNat = P at *
    have e0 : (S 0 23 0).toNat = nw S := rfl
    have e5 : ho S (sp S) P 0 23 = S 0 23 := by rw [ho_nc (by decide)]
    have e6 : ∀ c, ho S (sp S) P (nw S) c = S (nw S) c := fun c => by rw [ho_nk hne]
    unfold irW cbW s3
    rcases (show a = 0 ∨ a = 1 ∨ a = 2 ∨ a = 3 by omega) with rfl | rfl | rfl | rfl
    · refine vg_sound (fun _ _ => false) (fun m => m == 83 || m == 94 || m == 93 || m == 63 || m == 67) 300 _ _ _ _ _ _ ?_
      repeat' first | (with_reducible refine vT ?_ ?_; · omega) | (with_reducible refine vF ?_ ?_; · omega) | (with_reducible refine vI (fun _ => ?_) (fun _ => ?_)) | (simp (config := {maxSteps := 1000000}) (disch := (first | assumption | omega | (rw [hr_at]; assumption) | (rw [hr_at]; omega) | (repeat' first | assumption | decide | omega | refine FxB_nc ?_ ?_ | refine adO_B ?_ ?_ | refine rmO_B ?_ ?_))) only [f_X7_ifRule, f_X7_isSetting, f_X7_areTicks, f_X6_payments, f_X6_sum, wg_0, wg_s, wK_none, wK_N, wK_C, wK_R, wQ_some, wQ_none, stR, mZ, mC, stI, ini, mL, gI, gA, sI, sA, bi, gF, pF, kF, kT, kL, c2, mT, mR, f4, tsw, lsw, tgt, inR, Nat.reduceLT, Nat.reduceLeDiff, Nat.reduceEqDiff, Nat.reduceAdd, Nat.reduceSub, ↓reduceIte, Bool.false_eq_true, List.map_cons, List.map_nil, List.length_cons, List.length_nil, List.replicate, List.cons_append, List.nil_append, List.getElem?_cons_zero, List.getElem?_cons_succ, List.set, List.take_succ_cons, List.take_zero, List.drop_succ_cons, List.drop_zero, List.reverse_cons, List.reverse_nil, Int.reduceLE, Int.reduceLT, Int.reduceNeg, Int.reduceToNat, true_and, and_true, and_self, beq_iff_eq, Bool.and_eq_true, Bool.or_eq_true, or_false, false_or, or_true, true_or, and_false, false_and, hu_ho, ho_at, oc_at, oc_nc, oc_oc, adO_nc, rmO_nc, not_false_eq_true, Int.reduceEq, Int.pow_zero, Int.reducePow, Int.reduceMul, Int.reduceAdd, Int.reduceDiv, Int.reduceMod, Int.zero_add, Int.add_zero, Int.mul_one, Int.cast_ofNat_Int, s37, s38, r1, e0, e5, e6])
    · refine vg_sound (fun _ _ => false) (fun m => m == 83 || m == 94 || m == 93) 300 _ _ _ _ _ _ ?_
      repeat' first | (with_reducible refine vT ?_ ?_; · omega) | (with_reducible refine vF ?_ ?_; · omega) | (with_reducible refine vI (fun _ => ?_) (fun _ => ?_)) | (simp (config := {maxSteps := 1000000}) (disch := (first | assumption | omega | (rw [hr_at]; assumption) | (rw [hr_at]; omega) | (repeat' first | assumption | decide | omega | refine FxB_nc ?_ ?_ | refine adO_B ?_ ?_ | refine rmO_B ?_ ?_))) only [f_X7_ifRule, f_X7_isSetting, f_X7_areTicks, wg_0, wg_s, wK_none, wK_N, wK_C, wK_R, wQ_some, wQ_none, stR, mZ, mC, stI, ini, mL, gI, gA, sI, sA, bi, gF, pF, kF, kT, kL, c2, mT, mR, f4, tsw, lsw, tgt, inR, Nat.reduceLT, Nat.reduceLeDiff, Nat.reduceEqDiff, Nat.reduceAdd, Nat.reduceSub, ↓reduceIte, Bool.false_eq_true, List.map_cons, List.map_nil, List.length_cons, List.length_nil, List.replicate, List.cons_append, List.nil_append, List.getElem?_cons_zero, List.getElem?_cons_succ, List.set, List.take_succ_cons, List.take_zero, List.drop_succ_cons, List.drop_zero, List.reverse_cons, List.reverse_nil, Int.reduceLE, Int.reduceLT, Int.reduceNeg, Int.reduceToNat, true_and, and_true, and_self, beq_iff_eq, Bool.and_eq_true, Bool.or_eq_true, or_false, false_or, or_true, true_or, and_false, false_and, hu_ho, ho_at, oc_at, oc_nc, oc_oc, adO_nc, rmO_nc, not_false_eq_true, Int.reduceEq, Int.pow_zero, Int.reducePow, Int.reduceMul, Int.reduceAdd, Int.reduceDiv, Int.reduceMod, Int.zero_add, Int.add_zero, Int.mul_one, Int.cast_ofNat_Int, s37, s38, r1, e0, e5, e6])
    · refine vg_sound (fun _ _ => false) (fun m => m == 83 || m == 94 || m == 93 || m == 65 || m == 67) 300 _ _ _ _ _ _ ?_
      repeat' first | (with_reducible refine vT ?_ ?_; · omega) | (with_reducible refine vF ?_ ?_; · omega) | (with_reducible refine vI (fun _ => ?_) (fun _ => ?_)) | (simp (config := {maxSteps := 1000000}) (disch := (first | assumption | omega | (rw [hr_at]; assumption) | (rw [hr_at]; omega) | (repeat' first | assumption | decide | omega | refine FxB_nc ?_ ?_ | refine adO_B ?_ ?_ | refine rmO_B ?_ ?_))) only [f_X7_ifRule, f_X7_isSetting, f_X7_areTicks, f_X6_allSentAway, f_X6_sum, wg_0, wg_s, wK_none, wK_N, wK_C, wK_R, wQ_some, wQ_none, stR, mZ, mC, stI, ini, mL, gI, gA, sI, sA, bi, gF, pF, kF, kT, kL, c2, mT, mR, f4, tsw, lsw, tgt, inR, Nat.reduceLT, Nat.reduceLeDiff, Nat.reduceEqDiff, Nat.reduceAdd, Nat.reduceSub, ↓reduceIte, Bool.false_eq_true, List.map_cons, List.map_nil, List.length_cons, List.length_nil, List.replicate, List.cons_append, List.nil_append, List.getElem?_cons_zero, List.getElem?_cons_succ, List.set, List.take_succ_cons, List.take_zero, List.drop_succ_cons, List.drop_zero, List.reverse_cons, List.reverse_nil, Int.reduceLE, Int.reduceLT, Int.reduceNeg, Int.reduceToNat, true_and, and_true, and_self, beq_iff_eq, Bool.and_eq_true, Bool.or_eq_true, or_false, false_or, or_true, true_or, and_false, false_and, hu_ho, ho_at, oc_at, oc_nc, oc_oc, adO_nc, rmO_nc, not_false_eq_true, Int.reduceEq, Int.pow_zero, Int.reducePow, Int.reduceMul, Int.reduceAdd, Int.reduceDiv, Int.reduceMod, Int.zero_add, Int.add_zero, Int.mul_one, Int.cast_ofNat_Int, s37, s38, r1, e0, e5, e6])
    · refine vg_sound (fun _ _ => false) (fun m => m == 83 || m == 94 || m == 93 || m == 40 || m == 64 || m == 67) 300 _ _ _ _ _ _ ?_
      repeat' first | (with_reducible refine vT ?_ ?_; · omega) | (with_reducible refine vF ?_ ?_; · omega) | (with_reducible refine vI (fun _ => ?_) (fun _ => ?_)) | (simp (config := {maxSteps := 1000000}) (disch := (first | assumption | omega | (rw [hr_at]; assumption) | (rw [hr_at]; omega) | (repeat' first | assumption | decide | omega | refine FxB_nc ?_ ?_ | refine adO_B ?_ ?_ | refine rmO_B ?_ ?_))) only [f_X7_ifRule, f_X7_isSetting, f_X7_areTicks, f_X3_coinsByWindows, f_X6_allCoins, f_X6_sum, wg_0, wg_s, wK_none, wK_N, wK_C, wK_R, wQ_some, wQ_none, stR, mZ, mC, stI, ini, mL, gI, gA, sI, sA, bi, gF, pF, kF, kT, kL, c2, mT, mR, f4, tsw, lsw, tgt, inR, Nat.reduceLT, Nat.reduceLeDiff, Nat.reduceEqDiff, Nat.reduceAdd, Nat.reduceSub, ↓reduceIte, Bool.false_eq_true, List.map_cons, List.map_nil, List.length_cons, List.length_nil, List.replicate, List.cons_append, List.nil_append, List.getElem?_cons_zero, List.getElem?_cons_succ, List.set, List.take_succ_cons, List.take_zero, List.drop_succ_cons, List.drop_zero, List.reverse_cons, List.reverse_nil, Int.reduceLE, Int.reduceLT, Int.reduceNeg, Int.reduceToNat, true_and, and_true, and_self, beq_iff_eq, Bool.and_eq_true, Bool.or_eq_true, or_false, false_or, or_true, true_or, and_false, false_and, hu_ho, ho_at, oc_at, oc_nc, oc_oc, adO_nc, rmO_nc, not_false_eq_true, Int.reduceEq, Int.pow_zero, Int.reducePow, Int.reduceMul, Int.reduceAdd, Int.reduceDiv, Int.reduceMod, Int.zero_add, Int.add_zero, Int.mul_one, Int.cast_ofNat_Int, s37, s38, r1, e0, e5, e6])
  · rw [if_neg h, if_neg h]
    refine vg_sound (fun _ _ => false) (fun m => m == 83 || m == 94 || m == 93) 300 _ _ _ _ _ _ ?_
    repeat' first | (with_reducible refine vT ?_ ?_; · omega) | (with_reducible refine vF ?_ ?_; · omega) | (with_reducible refine vI (fun _ => ?_) (fun _ => ?_)) | (simp (config := {maxSteps := 1000000}) (disch := (first | assumption | omega | (rw [hr_at]; assumption) | (rw [hr_at]; omega) | (repeat' first | assumption | decide | omega | refine FxB_nc ?_ ?_ | refine adO_B ?_ ?_ | refine rmO_B ?_ ?_))) only [f_X7_ifRule, f_X7_isSetting, f_X7_areTicks, wg_0, wg_s, wK_none, wK_N, wK_C, wK_R, wQ_some, wQ_none, stR, mZ, mC, stI, ini, mL, gI, gA, sI, sA, bi, gF, pF, kF, kT, kL, c2, mT, mR, f4, tsw, lsw, tgt, inR, Nat.reduceLT, Nat.reduceLeDiff, Nat.reduceEqDiff, Nat.reduceAdd, Nat.reduceSub, ↓reduceIte, Bool.false_eq_true, List.map_cons, List.map_nil, List.length_cons, List.length_nil, List.replicate, List.cons_append, List.nil_append, List.getElem?_cons_zero, List.getElem?_cons_succ, List.set, List.take_succ_cons, List.take_zero, List.drop_succ_cons, List.drop_zero, List.reverse_cons, List.reverse_nil, Int.reduceLE, Int.reduceLT, Int.reduceNeg, Int.reduceToNat, true_and, and_true, and_self, beq_iff_eq, Bool.and_eq_true, Bool.or_eq_true, or_false, false_or, or_true, true_or, and_false, false_and, hu_ho, ho_at, oc_at, oc_nc, oc_oc, adO_nc, rmO_nc, not_false_eq_true, Int.reduceEq, Int.pow_zero, Int.reducePow, Int.reduceMul, Int.reduceAdd, Int.reduceDiv, Int.reduceMod, Int.zero_add, Int.add_zero, Int.mul_one, Int.cast_ofNat_Int, s37, s38])
/- the spare office after each rule -/
def brX (S : Hp) : Nat → Of
  | 0 => S (sp S)
  | j + 1 => ruO (brX S j) (S (nw S)) (j : Int) 99
abbrev bsB (P N : Of) (m : Int) : Prop := P 0 8 ≤ N 0 8 ∧ m < s3 (P 15) - P 0 9
def bsR (P N : Of) (r : Int) (q : Int × Int) : Int × Int := (if bsB P N q.2 then r else q.1, if bsB P N q.2 then s3 (P 15) - P 0 9 else q.2)
def bsV (S : Hp) : Nat → Int × Int
  | 0 => (-5, -1)
  | j + 1 => bsR (brX S (j + 1)) (S (nw S)) (j : Int) (bsV S j)
set_option maxHeartbeats 4000000 in
set_option maxRecDepth 100000 in
theorem bs_step {S : Hp} {X P : Of} {b m r : Int} {y1 y2 : Option MV} {Q : Option MV → Hp → Prop} (hne : ¬ nw S = sp S) (hr0 : 0 ≤ r ∧ r < 3) (hm : tdR m) (hT : ∀ j : Nat, j < 99 → TcP (ruO X (S (nw S)) r j)) (hPe : P = ruO X (S (nw S)) r 99) (h8 : tdR (P 0 8) ∧ tdR (S (nw S) 0 8)) (h9 : tdR (s3 (P 15) - P 0 9)) (h : ∀ y1 y2 : Option MV, Wp 84 7 [some (.inr (0, 23)), some (.inl (if bsB P (S (nw S)) m then r else b)), some (.inl (if bsB P (S (nw S)) m then s3 (P 15) - P 0 9 else m)), some (.inl (r + 1)), y1, y2] [] (ho S (sp S) P) Q) : Wp 84 7 [some (.inr (0, 23)), some (.inl b), some (.inl m), some (.inl r), y1, y2] [] (ho S (sp S) X) Q := by
  have s38 : sv 38 0 = 2 := rfl
  have r1 := fun Q => c_runWithRule (S := S) (X := X) (r := r) (t := 99) hne (by omega) (fun j hj => hT j (by omega)) Q
  have e9 : (99 : Int).toNat = 99 := rfl
  rw [e9, ← hPe] at r1
  clear hPe hT
  have e0 : (S 0 23 0).toNat = nw S := rfl
  have e5 : ho S (sp S) P 0 23 = S 0 23 := by rw [ho_nc (by decide)]
  have e6 : ∀ c, ho S (sp S) P (nw S) c = S (nw S) c := fun c => by rw [ho_nk hne]
  unfold tdR at h8 h9 hm
  by_cases hb : bsB P (S (nw S)) m
  · rw [if_pos hb, if_pos hb] at h
    unfold bsB at hb
    unfold s3 at h h9 hb
    refine vg_cut (fun m pc => (m == 84 && pc == 7)) (fun m => m == 84 || m == 63 || m == 67) 300 _ _ _ _ _ _ ?_
    repeat' first | (with_reducible refine vT ?_ ?_; · omega) | (with_reducible refine vF ?_ ?_; · omega) | (with_reducible refine vI (fun _ => ?_) (fun _ => ?_)) | (simp (config := {maxSteps := 1000000}) (disch := (first | assumption | omega | (rw [hr_at]; assumption) | (rw [hr_at]; omega) | (repeat' first | assumption | decide | omega | refine FxB_nc ?_ ?_ | refine adO_B ?_ ?_ | refine rmO_B ?_ ?_))) only [f_X7_bestRule, f_X6_payments, f_X6_sum, wg_0, wg_s, wK_none, wK_N, wK_C, wK_R, wQ_some, wQ_none, stR, mZ, mC, stI, ini, mL, gI, gA, sI, sA, bi, gF, pF, kF, kT, kL, c2, mT, mR, f4, tsw, lsw, tgt, inR, Nat.reduceLT, Nat.reduceLeDiff, Nat.reduceEqDiff, Nat.reduceAdd, Nat.reduceSub, ↓reduceIte, Bool.false_eq_true, List.map_cons, List.map_nil, List.length_cons, List.length_nil, List.replicate, List.cons_append, List.nil_append, List.getElem?_cons_zero, List.getElem?_cons_succ, List.set, List.take_succ_cons, List.take_zero, List.drop_succ_cons, List.drop_zero, List.reverse_cons, List.reverse_nil, Int.reduceLE, Int.reduceLT, Int.reduceNeg, Int.reduceToNat, true_and, and_true, and_self, beq_iff_eq, Bool.and_eq_true, Bool.or_eq_true, or_false, false_or, or_true, true_or, and_false, false_and, hu_ho, ho_at, oc_at, oc_nc, oc_oc, adO_nc, rmO_nc, not_false_eq_true, Int.reduceEq, Int.pow_zero, Int.reducePow, Int.reduceMul, Int.reduceAdd, Int.reduceDiv, Int.reduceMod, Int.zero_add, Int.add_zero, Int.mul_one, Int.cast_ofNat_Int, s38, r1, e0, e5, e6])
    all_goals exact h _ _
  · rw [if_neg hb, if_neg hb] at h
    unfold bsB at hb
    unfold s3 at h9 hb
    refine vg_cut (fun m pc => (m == 84 && pc == 7)) (fun m => m == 84 || m == 63 || m == 67) 300 _ _ _ _ _ _ ?_
    repeat' first | (with_reducible refine vT ?_ ?_; · omega) | (with_reducible refine vF ?_ ?_; · omega) | (with_reducible refine vI (fun _ => ?_) (fun _ => ?_)) | (simp (config := {maxSteps := 1000000}) (disch := (first | assumption | omega | (rw [hr_at]; assumption) | (rw [hr_at]; omega) | (repeat' first | assumption | decide | omega | refine FxB_nc ?_ ?_ | refine adO_B ?_ ?_ | refine rmO_B ?_ ?_))) only [f_X7_bestRule, f_X6_payments, f_X6_sum, wg_0, wg_s, wK_none, wK_N, wK_C, wK_R, wQ_some, wQ_none, stR, mZ, mC, stI, ini, mL, gI, gA, sI, sA, bi, gF, pF, kF, kT, kL, c2, mT, mR, f4, tsw, lsw, tgt, inR, Nat.reduceLT, Nat.reduceLeDiff, Nat.reduceEqDiff, Nat.reduceAdd, Nat.reduceSub, ↓reduceIte, Bool.false_eq_true, List.map_cons, List.map_nil, List.length_cons, List.length_nil, List.replicate, List.cons_append, List.nil_append, List.getElem?_cons_zero, List.getElem?_cons_succ, List.set, List.take_succ_cons, List.take_zero, List.drop_succ_cons, List.drop_zero, List.reverse_cons, List.reverse_nil, Int.reduceLE, Int.reduceLT, Int.reduceNeg, Int.reduceToNat, true_and, and_true, and_self, beq_iff_eq, Bool.and_eq_true, Bool.or_eq_true, or_false, false_or, or_true, true_or, and_false, false_and, hu_ho, ho_at, oc_at, oc_nc, oc_oc, adO_nc, rmO_nc, not_false_eq_true, Int.reduceEq, Int.pow_zero, Int.reducePow, Int.reduceMul, Int.reduceAdd, Int.reduceDiv, Int.reduceMod, Int.zero_add, Int.add_zero, Int.mul_one, Int.cast_ofNat_Int, s38, r1, e0, e5, e6])
    all_goals exact h _ _
set_option maxHeartbeats 4000000 in
set_option maxRecDepth 100000 in
theorem bs_end {S : Hp} {b m : Int} {y1 y2 : Option MV} {Q : Option MV → Hp → Prop} (h : Q (some (.inl b)) S) : Wp 84 7 [some (.inr (0, 23)), some (.inl b), some (.inl m), some (.inl 3), y1, y2] [] S Q := by
  have s38 : sv 38 0 = 2 := rfl
  refine vg_cut (fun m pc => (m == 84 && pc == 7)) (fun m => m == 84) 60 _ _ _ _ _ _ ?_
  repeat' first | (with_reducible refine vT ?_ ?_; · omega) | (with_reducible refine vF ?_ ?_; · omega) | (with_reducible refine vI (fun _ => ?_) (fun _ => ?_)) | (simp (config := {maxSteps := 1000000}) (disch := (first | assumption | omega | (rw [hr_at]; assumption) | (rw [hr_at]; omega))) only [f_X7_bestRule, wg_0, wg_s, wK_none, wK_N, wK_C, wK_R, wQ_some, wQ_none, stR, mZ, mC, stI, ini, mL, gI, gA, sI, sA, bi, gF, pF, kF, kT, kL, c2, mT, mR, f4, tsw, lsw, tgt, inR, Nat.reduceLT, Nat.reduceLeDiff, Nat.reduceEqDiff, Nat.reduceAdd, Nat.reduceSub, ↓reduceIte, Bool.false_eq_true, List.map_cons, List.map_nil, List.length_cons, List.length_nil, List.replicate, List.cons_append, List.nil_append, List.getElem?_cons_zero, List.getElem?_cons_succ, List.set, List.take_succ_cons, List.take_zero, List.drop_succ_cons, List.drop_zero, List.reverse_cons, List.reverse_nil, Int.reduceLE, Int.reduceLT, Int.reduceNeg, Int.reduceToNat, true_and, and_true, and_self, beq_iff_eq, Bool.and_eq_true, Bool.or_eq_true, or_false, false_or, or_true, true_or, and_false, false_and, hu_hr, hr_hr, hr_at, hr_nc, not_false_eq_true, Int.reduceEq, Int.pow_zero, Int.reducePow, Int.reduceMul, Int.reduceAdd, Int.reduceDiv, Int.reduceMod, Int.zero_add, Int.add_zero, Int.mul_one, Int.cast_ofNat_Int, s38])
  exact h
set_option maxHeartbeats 4000000 in
set_option maxRecDepth 100000 in
theorem bsR_td {P N : Of} {r : Int} {q : Int × Int} (h : tdR (s3 (P 15) - P 0 9)) (h2 : tdR q.2) : tdR (bsR P N r q).2 := by
  unfold bsR
  dsimp only
  split
  · exact h
  · exact h2
set_option maxHeartbeats 4000000 in
set_option maxRecDepth 100000 in
theorem c_bestRule {S : Hp} (hne : ¬ nw S = sp S) (hT : ∀ i : Nat, i < 3 → (∀ j : Nat, j < 99 → TcP (ruO (brX S i) (S (nw S)) (i : Int) j)) ∧ tdR (brX S (i + 1) 0 8) ∧ tdR (s3 (brX S (i + 1) 15) - brX S (i + 1) 0 9)) (h8 : tdR (S (nw S) 0 8)) (Q : Option MV → Hp → Prop) : Wc 84 [.inr (0, 23)] S Q = Q (some (.inl (bsV S 3).1)) (ho S (sp S) (brX S 3)) := by
  refine Wc_eq ?_ Q
  unfold Wc
  refine vg_sound (fun m pc => (m == 84 && pc == 7)) (fun m => m == 84) 40 _ _ _ _ _ _ ?_
  repeat' first | (with_reducible refine vT ?_ ?_; · omega) | (with_reducible refine vF ?_ ?_; · omega) | (with_reducible refine vI (fun _ => ?_) (fun _ => ?_)) | (simp (config := {maxSteps := 1000000}) (disch := (first | assumption | omega | (rw [hr_at]; assumption) | (rw [hr_at]; omega))) only [f_X7_bestRule, wg_0, wg_s, wK_none, wK_N, wK_C, wK_R, wQ_some, wQ_none, stR, mZ, mC, stI, ini, mL, gI, gA, sI, sA, bi, gF, pF, kF, kT, kL, c2, mT, mR, f4, tsw, lsw, tgt, inR, Nat.reduceLT, Nat.reduceLeDiff, Nat.reduceEqDiff, Nat.reduceAdd, Nat.reduceSub, ↓reduceIte, Bool.false_eq_true, List.map_cons, List.map_nil, List.length_cons, List.length_nil, List.replicate, List.cons_append, List.nil_append, List.getElem?_cons_zero, List.getElem?_cons_succ, List.set, List.take_succ_cons, List.take_zero, List.drop_succ_cons, List.drop_zero, List.reverse_cons, List.reverse_nil, Int.reduceLE, Int.reduceLT, Int.reduceNeg, Int.reduceToNat, true_and, and_true, and_self, beq_iff_eq, Bool.and_eq_true, Bool.or_eq_true, or_false, false_or, or_true, true_or, and_false, false_and, hu_hr, hr_hr, hr_at, hr_nc, not_false_eq_true, Int.reduceEq, Int.pow_zero, Int.reducePow, Int.reduceMul, Int.reduceAdd, Int.reduceDiv, Int.reduceMod, Int.zero_add, Int.add_zero, Int.mul_one, Int.cast_ofNat_Int])
  have t0 := hT 0 (by omega)
  have t1 := hT 1 (by omega)
  have t2 := hT 2 (by omega)
  have v0 : tdR (bsV S 0).2 := by unfold bsV tdR; decide
  have v1 : tdR (bsV S 1).2 := bsR_td t0.2.2 v0
  have v2 : tdR (bsV S 2).2 := bsR_td t1.2.2 v1
  have e0 : ho S (sp S) (brX S 0) = S := ho_id S (sp S)
  have go : ∀ y1 y2 : Option MV, Wp 84 7 [some (.inr (0, 23)), some (.inl (-5)), some (.inl (-1)), some (.inl 0), y1, y2] [] (ho S (sp S) (brX S 0)) (fun r T => r = some (.inl (bsV S 3).1) ∧ T = ho S (sp S) (brX S 3)) := by
    intro y1 y2
    refine bs_step (P := brX S 1) hne (by omega) v0 t0.1 rfl ⟨t0.2.1, h8⟩ t0.2.2 (fun y1 y2 => ?_)
    refine bs_step (r := 1) (P := brX S 2) hne (by omega) v1 t1.1 rfl ⟨t1.2.1, h8⟩ t1.2.2 (fun y1 y2 => ?_)
    refine bs_step (r := 2) (P := brX S 3) hne (by omega) v2 t2.1 rfl ⟨t2.2.1, h8⟩ t2.2.2 (fun y1 y2 => ?_)
    exact bs_end ⟨rfl, rfl⟩
  rw [e0] at go
  exact go _ _
