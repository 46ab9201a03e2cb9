/-! THE CLASS: offices copied, acts begun and ended -/
set_option maxHeartbeats 4000000 in
set_option maxRecDepth 100000 in
theorem hcp_ho {S : Hp} {a b c : Nat} {O : Of} {n : Int} (h : c < 23) (hne : ¬ b = a) : hcp (ho S a O) b c 0 a c 0 n = ho S a (oc O c (cpF (O c) (S b c) n)) := by
  funext k c' j
  unfold hcp
  by_cases h1 : k = a
  · by_cases h2 : c' = c
    · subst h1 h2
      unfold cpF
      rw [ho_at h, ho_at h, oc_at, ho_nk hne]
      by_cases h3 : 0 ≤ j ∧ j < n
      · rw [if_pos ⟨rfl, rfl, h3.1, by omega⟩, if_pos h3]
        congr 1
        omega
      · rw [if_neg (fun q => h3 ⟨q.2.2.1, by omega⟩), if_neg h3]
    · rw [if_neg (fun q => h2 q.2.1)]
      unfold ho oc
      by_cases h3 : k = a ∧ c' < 23
      · rw [if_pos h3, if_pos h3, if_neg h2]
      · rw [if_neg h3, if_neg h3]
  · rw [if_neg (fun q => h1 q.1)]
    unfold ho
    rw [if_neg (fun q => h1 q.1), if_neg (fun q => h1 q.1)]
def cpO (O P : Of) : Of := oc (oc (oc (oc (oc (oc (oc (oc (oc (oc (oc (oc (oc (oc (oc (oc (oc (oc (oc (oc (oc O 0 (up (up (O 0) 0 (P 0 0)) 1 (P 0 1))) 1 (cpF (O 1) (P 1) 3)) 3 (cpF (O 3) (P 3) 600)) 4 (cpF (O 4) (P 4) 600)) 6 (cpF (O 6) (P 6) 6)) 7 (cpF (O 7) (P 7) 6)) 8 (cpF (O 8) (P 8) 18)) 10 (cpF (O 10) (P 10) 24)) 11 (cpF (O 11) (P 11) 3)) 12 (cpF (O 12) (P 12) 3)) 13 (cpF (O 13) (P 13) 3)) 14 (cpF (O 14) (P 14) 3)) 15 (cpF (O 15) (P 15) 3)) 16 (cpF (O 16) (P 16) 3)) 17 (cpF (O 17) (P 17) 3)) 18 (up (O 18) 0 (P 18 0))) 19 (cpF (O 19) (P 19) 150)) 20 (cpF (O 20) (P 20) 150)) 21 (up (up (O 21) 0 (P 21 0)) 1 (P 21 1))) 22 (cpF (O 22) (P 22) 114)) 0 (up (up (up (up (up (O 0) 0 (P 0 0)) 1 (P 0 1)) 8 (P 0 8)) 9 (P 0 9)) 10 (P 0 10))
set_option maxHeartbeats 4000000 in
set_option maxRecDepth 100000 in
theorem c_copyFrom {S : Hp} {a b : Nat} {O : Of} (hne : ¬ b = a) (Q : Option MV → Hp → Prop) : Wc 20 [.inr (a, 0), .inr (b, 0)] (ho S a O) Q = Q none (ho S a (cpO O (S b))) := by
  refine Wc_eq ?_ Q
  unfold Wc
  unfold cpO
  refine vg_sound (fun _ _ => false) (fun m => m == 20 || m == 43 || m == 4 || m == 52 || m == 13 || m == 1) 300 _ _ _ _ _ _ ?_
  repeat' first | (with_reducible refine vT ?_ ?_; · omega) | (with_reducible refine vF ?_ ?_; · omega) | (with_reducible refine vI (fun _ => ?_) (fun _ => ?_)) | (simp (config := {maxSteps := 1000000}) (disch := (first | assumption | omega | (rw [hr_at]; assumption) | (rw [hr_at]; omega) | (repeat' first | assumption | decide | omega | refine FxB_nc ?_ ?_ | refine adO_B ?_ ?_ | refine rmO_B ?_ ?_))) only [f_X3_copyFrom, f_X5_copyFrom, f_X1_copyFrom, f_X6_copyFrom, f_X2_copyFrom, f_X0_copyFrom, wg_0, wg_s, wK_none, wK_N, wK_C, wK_R, wQ_some, wQ_none, stR, mZ, mC, stI, ini, mL, gI, gA, sI, sA, bi, gF, pF, kF, kT, kL, c2, mT, mR, f4, tsw, lsw, tgt, inR, Nat.reduceLT, Nat.reduceLeDiff, Nat.reduceEqDiff, Nat.reduceAdd, Nat.reduceSub, ↓reduceIte, Bool.false_eq_true, List.map_cons, List.map_nil, List.length_cons, List.length_nil, List.replicate, List.cons_append, List.nil_append, List.getElem?_cons_zero, List.getElem?_cons_succ, List.set, List.take_succ_cons, List.take_zero, List.drop_succ_cons, List.drop_zero, List.reverse_cons, List.reverse_nil, Int.reduceLE, Int.reduceLT, Int.reduceNeg, Int.reduceToNat, true_and, and_true, and_self, beq_iff_eq, Bool.and_eq_true, Bool.or_eq_true, or_false, false_or, or_true, true_or, and_false, false_and, hu_ho, ho_at, oc_at, oc_nc, oc_oc, adO_nc, rmO_nc, not_false_eq_true, Int.reduceEq, Int.pow_zero, Int.reducePow, Int.reduceMul, Int.reduceAdd, Int.reduceDiv, Int.reduceMod, Int.zero_add, Int.add_zero, Int.mul_one, Int.cast_ofNat_Int, hcp_ho, ho_nk, hne])
