/-! THE CLASS: ticks run -/
def tdO (O : Of) : Of := oc O 0 (up (O 0) 0 (O 0 0 + 1))
def nN (O : Of) : Nat := (O 18 0).toNat
def bnO (O : Of) : Of := bmO O (nN O) (nN (bmI O (nN O)))
def tkO (O : Of) : Of := cwO (tdO (stO (svO (svO (svO (bnO O) 0) 1) 2)))
def BnP (O : Of) : Prop := (0 ≤ O 18 0 ∧ O 18 0 ≤ 150) ∧ (∀ j : Nat, j < nN O → BmP (bmI O j) j) ∧ (0 ≤ bmI O (nN O) 18 0 ∧ bmI O (nN O) 18 0 ≤ 150) ∧ (0 ≤ bmI O (nN O) 0 0 ∧ bmI O (nN O) 0 0 < 100000) ∧ (∀ i : Int, 0 ≤ i → i < bmI O (nN O) 18 0 → 0 ≤ bmI O (nN O) 19 i ∧ bmI O (nN O) 19 i < 2147483648)
set_option maxHeartbeats 4000000 in
set_option maxRecDepth 100000 in
theorem c_bring {S : Hp} {k : Nat} {O : Of} (hP : BnP O) (Q : Option MV → Hp → Prop) : Wc 29 [.inr (k, 0)] (ho S k O) Q = Q none (ho S k (bnO O)) := by
  obtain ⟨h1, h2, h3, h4, h5⟩ := hP
  refine c_bringMail (N := nN O) (N2 := nN (bmI O (nN O))) ?_ ?_ h2 ?_ ?_ h4 h5 Q
  · unfold nN; omega
  · unfold nN; omega
  · show _ = (((bmI O (nN O) 18 0).toNat : Nat) : Int)
    omega
  · show (bmI O (nN O) 18 0).toNat ≤ 150
    omega
def TcP (O : Of) : Prop := BnP O ∧ SvP (bnO O) 0 ∧ SvP (svO (bnO O) 0) 1 ∧ SvP (svO (svO (bnO O) 0) 1) 2 ∧ StP (svO (svO (svO (bnO O) 0) 1) 2) ∧ ∀ w : Int, 0 ≤ w → w < 3 → -5 ≤ stO (svO (svO (svO (bnO O) 0) 1) 2) 12 w ∧ stO (svO (svO (svO (bnO O) 0) 1) 2) 12 w < 600
set_option maxHeartbeats 4000000 in
set_option maxRecDepth 100000 in
theorem rt_step {S : Hp} {k : Nat} {O : Of} {t z : Int} {y : Option MV} {Q : Option MV → Hp → Prop} (hP : TcP O) (ht : 0 ≤ t ∧ t ≤ 99) (hz : 0 ≤ z ∧ z < t) (h : ∀ y : Option MV, Wp 28 2 [some (.inr (k, 0)), some (.inl t), some (.inl (z + 1)), y] [] (ho S k (tkO O)) Q) : Wp 28 2 [some (.inr (k, 0)), some (.inl t), some (.inl z), y] [] (ho S k O) Q := by
  obtain ⟨h1, h2, h3, h4, h5, h6⟩ := hP
  have r1 := fun Q => c_bring (S := S) (k := k) h1 Q
  have r2 := fun Q => c_serve (S := S) (k := k) h2 (by omega) Q
  have r3 := fun Q => c_serve (S := S) (k := k) h3 (by omega) Q
  have r4 := fun Q => c_serve (S := S) (k := k) h4 (by omega) Q
  have r5 := fun Q => c_settle (S := S) (k := k) h5 Q
  unfold tkO at h
  generalize svO (svO (svO (bnO O) 0) 1) 2 = P at *
  have r6 := fun Q => c_countWaiting (S := S) (k := k) (O := tdO (stO P)) (by
    have e : tdO (stO P) 12 = stO P 12 := oc_nc (by decide)
    rw [e]; exact h6) Q
  have e1 : oc (stO P) 0 (up (stO P 0) 0 (stO P 0 0 + 1)) = tdO (stO P) := rfl
  refine vg_cut (fun m pc => (m == 28 && pc == 2)) (fun m => m == 28) 100 _ _ _ _ _ _ ?_
  repeat' first | (with_reducible refine vT ?_ ?_; · omega) | (with_reducible refine vF ?_ ?_; · omega) | (with_reducible refine vI (fun _ => ?_) (fun _ => ?_)) | (simp (config := {maxSteps := 1000000}) (disch := (first | assumption | omega | (rw [hr_at]; assumption) | (rw [hr_at]; omega) | (repeat' first | assumption | decide | omega | refine FxB_nc ?_ ?_ | refine adO_B ?_ ?_ | refine rmO_B ?_ ?_))) only [f_X3_runTicks, wg_0, wg_s, wK_none, wK_N, wK_C, wK_R, wQ_some, wQ_none, stR, mZ, mC, stI, ini, mL, gI, gA, sI, sA, bi, gF, pF, kF, kT, kL, c2, mT, mR, f4, tsw, lsw, tgt, inR, Nat.reduceLT, Nat.reduceLeDiff, Nat.reduceEqDiff, Nat.reduceAdd, Nat.reduceSub, ↓reduceIte, Bool.false_eq_true, List.map_cons, List.map_nil, List.length_cons, List.length_nil, List.replicate, List.cons_append, List.nil_append, List.getElem?_cons_zero, List.getElem?_cons_succ, List.set, List.take_succ_cons, List.take_zero, List.drop_succ_cons, List.drop_zero, List.reverse_cons, List.reverse_nil, Int.reduceLE, Int.reduceLT, Int.reduceNeg, Int.reduceToNat, true_and, and_true, and_self, beq_iff_eq, Bool.and_eq_true, Bool.or_eq_true, or_false, false_or, or_true, true_or, and_false, false_and, hu_ho, ho_at, oc_at, oc_nc, oc_oc, adO_nc, rmO_nc, not_false_eq_true, Int.reduceEq, Int.pow_zero, Int.reducePow, Int.reduceMul, Int.reduceAdd, Int.reduceDiv, Int.reduceMod, Int.zero_add, Int.add_zero, Int.mul_one, Int.cast_ofNat_Int, r1, r2, r3, r4, r5, r6, e1])
  exact h _
set_option maxHeartbeats 4000000 in
set_option maxRecDepth 100000 in
theorem rt_end {S : Hp} {k : Nat} {O : Of} {t z : Int} {y : Option MV} {Q : Option MV → Hp → Prop} (ht : 0 ≤ t ∧ t ≤ 99) (hz : z = t) (h : Q none (ho S k O)) : Wp 28 2 [some (.inr (k, 0)), some (.inl t), some (.inl z), y] [] (ho S k O) Q := by
  refine vg_cut (fun m pc => (m == 28 && pc == 2)) (fun m => m == 28) 100 _ _ _ _ _ _ ?_
  repeat' first | (with_reducible refine vT ?_ ?_; · omega) | (with_reducible refine vF ?_ ?_; · omega) | (with_reducible refine vI (fun _ => ?_) (fun _ => ?_)) | (simp (config := {maxSteps := 1000000}) (disch := (first | assumption | omega | (rw [hr_at]; assumption) | (rw [hr_at]; omega) | (repeat' first | assumption | decide | omega | refine FxB_nc ?_ ?_ | refine adO_B ?_ ?_ | refine rmO_B ?_ ?_))) only [f_X3_runTicks, wg_0, wg_s, wK_none, wK_N, wK_C, wK_R, wQ_some, wQ_none, stR, mZ, mC, stI, ini, mL, gI, gA, sI, sA, bi, gF, pF, kF, kT, kL, c2, mT, mR, f4, tsw, lsw, tgt, inR, Nat.reduceLT, Nat.reduceLeDiff, Nat.reduceEqDiff, Nat.reduceAdd, Nat.reduceSub, ↓reduceIte, Bool.false_eq_true, List.map_cons, List.map_nil, List.length_cons, List.length_nil, List.replicate, List.cons_append, List.nil_append, List.getElem?_cons_zero, List.getElem?_cons_succ, List.set, List.take_succ_cons, List.take_zero, List.drop_succ_cons, List.drop_zero, List.reverse_cons, List.reverse_nil, Int.reduceLE, Int.reduceLT, Int.reduceNeg, Int.reduceToNat, true_and, and_true, and_self, beq_iff_eq, Bool.and_eq_true, Bool.or_eq_true, or_false, false_or, or_true, true_or, and_false, false_and, hu_ho, ho_at, oc_at, oc_nc, oc_oc, adO_nc, rmO_nc, not_false_eq_true, Int.reduceEq, Int.pow_zero, Int.reducePow, Int.reduceMul, Int.reduceAdd, Int.reduceDiv, Int.reduceMod, Int.zero_add, Int.add_zero, Int.mul_one, Int.cast_ofNat_Int])
  exact h
def rvO (O : Of) : Nat → Of
  | 0 => O
  | j + 1 => tkO (rvO O j)
set_option maxHeartbeats 4000000 in
set_option maxRecDepth 100000 in
theorem c_runTicks {S : Hp} {k : Nat} {O : Of} {t : Int} (ht : 0 ≤ t ∧ t ≤ 99) (hP : ∀ j : Nat, (j : Int) < t → TcP (rvO O j)) (Q : Option MV → Hp → Prop) : Wc 28 [.inr (k, 0), .inl t] (ho S k O) Q = Q none (ho S k (rvO O t.toNat)) := by
  refine Wc_eq ?_ Q
  unfold Wc
  obtain ⟨N, hN⟩ : ∃ N : Nat, N = t.toNat := ⟨_, rfl⟩
  rw [← hN]
  refine vg_sound (fun m pc => (m == 28 && pc == 2)) (fun m => m == 28) 20 _ _ _ _ _ _ ?_
  repeat' first | (with_reducible refine vT ?_ ?_; · omega) | (with_reducible refine vF ?_ ?_; · omega) | (with_reducible refine vI (fun _ => ?_) (fun _ => ?_)) | (simp (config := {maxSteps := 1000000}) (disch := (first | assumption | omega | (rw [hr_at]; assumption) | (rw [hr_at]; omega) | (repeat' first | assumption | decide | omega | refine FxB_nc ?_ ?_ | refine adO_B ?_ ?_ | refine rmO_B ?_ ?_))) only [f_X3_runTicks, wg_0, wg_s, wK_none, wK_N, wK_C, wK_R, wQ_some, wQ_none, stR, mZ, mC, stI, ini, mL, gI, gA, sI, sA, bi, gF, pF, kF, kT, kL, c2, mT, mR, f4, tsw, lsw, tgt, inR, Nat.reduceLT, Nat.reduceLeDiff, Nat.reduceEqDiff, Nat.reduceAdd, Nat.reduceSub, ↓reduceIte, Bool.false_eq_true, List.map_cons, List.map_nil, List.length_cons, List.length_nil, List.replicate, List.cons_append, List.nil_append, List.getElem?_cons_zero, List.getElem?_cons_succ, List.set, List.take_succ_cons, List.take_zero, List.drop_succ_cons, List.drop_zero, List.reverse_cons, List.reverse_nil, Int.reduceLE, Int.reduceLT, Int.reduceNeg, Int.reduceToNat, true_and, and_true, and_self, beq_iff_eq, Bool.and_eq_true, Bool.or_eq_true, or_false, false_or, or_true, true_or, and_false, false_and, hu_ho, ho_at, oc_at, oc_nc, oc_oc, adO_nc, rmO_nc, not_false_eq_true, Int.reduceEq, Int.pow_zero, Int.reducePow, Int.reduceMul, Int.reduceAdd, Int.reduceDiv, Int.reduceMod, Int.zero_add, Int.add_zero, Int.mul_one, Int.cast_ofNat_Int])
  have key : ∀ d j : Nat, j + d = N → ∀ y : Option MV, Wp 28 2 [some (.inr (k, 0)), some (.inl t), some (.inl (j : Int)), y] [] (ho S k (rvO O j)) (fun r T => r = none ∧ T = ho S k (rvO O N)) := by
    intro d
    induction d with
    | zero =>
      intro j hj y
      obtain rfl : j = N := by omega
      exact rt_end ht (by omega) ⟨rfl, rfl⟩
    | succ d ih =>
      intro j hj y
      refine rt_step (hP j (by omega)) ht (by omega) (fun y => ?_)
      have h1 := ih (j + 1) (by omega) y
      rw [Int.natCast_add] at h1
      exact h1
  exact key N 0 (by omega) _
def s3 (f : Int → Int) : Int := f 0 + f 1 + f 2
def paO (O : Of) (t : Int) : Of := if 1 ≤ t ∧ t ≤ 99 then (if 9999 < O 0 0 + t then O else rvO O t.toNat) else O
def paW (O : Of) (t : Int) : Int := if 1 ≤ t ∧ t ≤ 99 then (if 9999 < O 0 0 + t then -3 else s3 (rvO O t.toNat 14) - s3 (O 14)) else -2
set_option maxHeartbeats 4000000 in
set_option maxRecDepth 100000 in
theorem c_passTicks {S : Hp} {k : Nat} {O : Of} {t : Int} (h0 : 0 ≤ O 0 0 ∧ O 0 0 ≤ 9999) (ht : tdR t) (hP : 1 ≤ t → O 0 0 + t ≤ 9999 → ∀ j : Nat, (j : Int) < t → TcP (rvO O j)) (Q : Option MV → Hp → Prop) : Wc 26 [.inr (k, 0), .inl t] (ho S k O) Q = Q (some (.inl (paW O t))) (ho S k (paO O t)) := by
  refine Wc_eq ?_ Q
  unfold Wc
  unfold tdR at ht
  unfold paW paO
  by_cases h : 1 ≤ t ∧ t ≤ 99
  · rw [if_pos h, if_pos h]
    by_cases h2 : 9999 < O 0 0 + t
    · rw [if_pos h2, if_pos h2]
      refine vg_sound (fun _ _ => false) (fun m => m == 26 || m == 93) 60 _ _ _ _ _ _ ?_
      repeat' first | (with_reducible refine vT ?_ ?_; · omega) | (with_reducible refine vF ?_ ?_; · omega) | (with_reducible refine vI (fun _ => ?_) (fun _ => ?_)) | (simp (config := {maxSteps := 1000000}) (disch := (first | assumption | omega | (rw [hr_at]; assumption) | (rw [hr_at]; omega) | (repeat' first | assumption | decide | omega | refine FxB_nc ?_ ?_ | refine adO_B ?_ ?_ | refine rmO_B ?_ ?_))) only [f_X3_passTicks, f_X7_areTicks, wg_0, wg_s, wK_none, wK_N, wK_C, wK_R, wQ_some, wQ_none, stR, mZ, mC, stI, ini, mL, gI, gA, sI, sA, bi, gF, pF, kF, kT, kL, c2, mT, mR, f4, tsw, lsw, tgt, inR, Nat.reduceLT, Nat.reduceLeDiff, Nat.reduceEqDiff, Nat.reduceAdd, Nat.reduceSub, ↓reduceIte, Bool.false_eq_true, List.map_cons, List.map_nil, List.length_cons, List.length_nil, List.replicate, List.cons_append, List.nil_append, List.getElem?_cons_zero, List.getElem?_cons_succ, List.set, List.take_succ_cons, List.take_zero, List.drop_succ_cons, List.drop_zero, List.reverse_cons, List.reverse_nil, Int.reduceLE, Int.reduceLT, Int.reduceNeg, Int.reduceToNat, true_and, and_true, and_self, beq_iff_eq, Bool.and_eq_true, Bool.or_eq_true, or_false, false_or, or_true, true_or, and_false, false_and, hu_ho, ho_at, oc_at, oc_nc, oc_oc, adO_nc, rmO_nc, not_false_eq_true, Int.reduceEq, Int.pow_zero, Int.reducePow, Int.reduceMul, Int.reduceAdd, Int.reduceDiv, Int.reduceMod, Int.zero_add, Int.add_zero, Int.mul_one, Int.cast_ofNat_Int])
    · rw [if_neg h2, if_neg h2]
      have r1 := fun Q => c_runTicks (S := S) (k := k) (O := O) (t := t) (by omega) (hP h.1 (by omega)) Q
      unfold s3
      generalize rvO O t.toNat = P at *
      refine vg_sound (fun _ _ => false) (fun m => m == 26 || m == 93 || m == 64 || m == 67) 200 _ _ _ _ _ _ ?_
      repeat' first | (with_reducible refine vT ?_ ?_; · omega) | (with_reducible refine vF ?_ ?_; · omega) | (with_reducible refine vI (fun _ => ?_) (fun _ => ?_)) | (simp (config := {maxSteps := 1000000}) (disch := (first | assumption | omega | (rw [hr_at]; assumption) | (rw [hr_at]; omega) | (repeat' first | assumption | decide | omega | refine FxB_nc ?_ ?_ | refine adO_B ?_ ?_ | refine rmO_B ?_ ?_))) only [f_X3_passTicks, f_X7_areTicks, f_X6_allCoins, f_X6_sum, wg_0, wg_s, wK_none, wK_N, wK_C, wK_R, wQ_some, wQ_none, stR, mZ, mC, stI, ini, mL, gI, gA, sI, sA, bi, gF, pF, kF, kT, kL, c2, mT, mR, f4, tsw, lsw, tgt, inR, Nat.reduceLT, Nat.reduceLeDiff, Nat.reduceEqDiff, Nat.reduceAdd, Nat.reduceSub, ↓reduceIte, Bool.false_eq_true, List.map_cons, List.map_nil, List.length_cons, List.length_nil, List.replicate, List.cons_append, List.nil_append, List.getElem?_cons_zero, List.getElem?_cons_succ, List.set, List.take_succ_cons, List.take_zero, List.drop_succ_cons, List.drop_zero, List.reverse_cons, List.reverse_nil, Int.reduceLE, Int.reduceLT, Int.reduceNeg, Int.reduceToNat, true_and, and_true, and_self, beq_iff_eq, Bool.and_eq_true, Bool.or_eq_true, or_false, false_or, or_true, true_or, and_false, false_and, hu_ho, ho_at, oc_at, oc_nc, oc_oc, adO_nc, rmO_nc, not_false_eq_true, Int.reduceEq, Int.pow_zero, Int.reducePow, Int.reduceMul, Int.reduceAdd, Int.reduceDiv, Int.reduceMod, Int.zero_add, Int.add_zero, Int.mul_one, Int.cast_ofNat_Int, r1])
  · rw [if_neg h, if_neg h]
    refine vg_sound (fun _ _ => false) (fun m => m == 26 || m == 93) 60 _ _ _ _ _ _ ?_
    repeat' first | (with_reducible refine vT ?_ ?_; · omega) | (with_reducible refine vF ?_ ?_; · omega) | (with_reducible refine vI (fun _ => ?_) (fun _ => ?_)) | (simp (config := {maxSteps := 1000000}) (disch := (first | assumption | omega | (rw [hr_at]; assumption) | (rw [hr_at]; omega) | (repeat' first | assumption | decide | omega | refine FxB_nc ?_ ?_ | refine adO_B ?_ ?_ | refine rmO_B ?_ ?_))) only [f_X3_passTicks, f_X7_areTicks, wg_0, wg_s, wK_none, wK_N, wK_C, wK_R, wQ_some, wQ_none, stR, mZ, mC, stI, ini, mL, gI, gA, sI, sA, bi, gF, pF, kF, kT, kL, c2, mT, mR, f4, tsw, lsw, tgt, inR, Nat.reduceLT, Nat.reduceLeDiff, Nat.reduceEqDiff, Nat.reduceAdd, Nat.reduceSub, ↓reduceIte, Bool.false_eq_true, List.map_cons, List.map_nil, List.length_cons, List.length_nil, List.replicate, List.cons_append, List.nil_append, List.getElem?_cons_zero, List.getElem?_cons_succ, List.set, List.take_succ_cons, List.take_zero, List.drop_succ_cons, List.drop_zero, List.reverse_cons, List.reverse_nil, Int.reduceLE, Int.reduceLT, Int.reduceNeg, Int.reduceToNat, true_and, and_true, and_self, beq_iff_eq, Bool.and_eq_true, Bool.or_eq_true, or_false, false_or, or_true, true_or, and_false, false_and, hu_ho, ho_at, oc_at, oc_nc, oc_oc, adO_nc, rmO_nc, not_false_eq_true, Int.reduceEq, Int.pow_zero, Int.reducePow, Int.reduceMul, Int.reduceAdd, Int.reduceDiv, Int.reduceMod, Int.zero_add, Int.add_zero, Int.mul_one, Int.cast_ofNat_Int])
def seV (O : Of) (t : Int) : Int := if 0 ≤ t ∧ t < 600 then (if O 7 (t / 100) = -5 then (if fb O t 0 = 1 then -5 else (O 6 (t / 100) + 1) * 10) else -4) else -1
def seO (O : Of) (t : Int) : Of := if 0 ≤ t ∧ t < 600 then (if O 7 (t / 100) = -5 then (if fb O t 0 = 1 then O else oc (adO O t 0) 6 (up (O 6) (t / 100) (O 6 (t / 100) + 1))) else O) else O
set_option maxHeartbeats 4000000 in
set_option maxRecDepth 100000 in
theorem c_sellTicket {S : Hp} {k : Nat} {O : Of} {t : Int} (hB : FxB O) (hG : WgB O) (ht : tdR t) (Q : Option MV → Hp → Prop) : Wc 21 [.inr (k, 0), .inl t] (ho S k O) Q = Q (some (.inl (seV O t))) (ho S k (seO O t)) := by
  refine Wc_eq ?_ Q
  unfold Wc
  unfold tdR at ht
  unfold seV seO
  by_cases h : 0 ≤ t ∧ t < 600
  · rw [if_pos h, if_pos h]
    have hg := hG (t / 100) (by omega) (by omega)
    have q := fb_01 O t 0
    have e : up (O 6) (t / 100) (O 6 (t / 100) + 1) (t / 100) = O 6 (t / 100) + 1 := up_eq rfl
    by_cases h7 : O 7 (t / 100) = -5
    · rw [if_pos h7, if_pos h7]
      by_cases h8 : fb O t 0 = 1
      · rw [if_pos h8, if_pos h8]
        refine vg_sound (fun _ _ => false) (fun m => m == 21 || m == 90 || m == 5 || m == 6) 100 _ _ _ _ _ _ ?_
        repeat' first | (with_reducible refine vT ?_ ?_; · omega) | (with_reducible refine vF ?_ ?_; · omega) | (with_reducible refine vI (fun _ => ?_) (fun _ => ?_)) | (simp (config := {maxSteps := 1000000}) (disch := (first | assumption | omega | (rw [hr_at]; assumption) | (rw [hr_at]; omega) | (repeat' first | assumption | decide | omega | refine FxB_nc ?_ ?_ | refine adO_B ?_ ?_ | refine rmO_B ?_ ?_))) only [f_X3_sellTicket, f_X7_isTicket, f_X1_isDrawn, f_X1_pool, wg_0, wg_s, wK_none, wK_N, wK_C, wK_R, wQ_some, wQ_none, stR, mZ, mC, stI, ini, mL, gI, gA, sI, sA, bi, gF, pF, kF, kT, kL, c2, mT, mR, f4, tsw, lsw, tgt, inR, Nat.reduceLT, Nat.reduceLeDiff, Nat.reduceEqDiff, Nat.reduceAdd, Nat.reduceSub, ↓reduceIte, Bool.false_eq_true, List.map_cons, List.map_nil, List.length_cons, List.length_nil, List.replicate, List.cons_append, List.nil_append, List.getElem?_cons_zero, List.getElem?_cons_succ, List.set, List.take_succ_cons, List.take_zero, List.drop_succ_cons, List.drop_zero, List.reverse_cons, List.reverse_nil, Int.reduceLE, Int.reduceLT, Int.reduceNeg, Int.reduceToNat, true_and, and_true, and_self, beq_iff_eq, Bool.and_eq_true, Bool.or_eq_true, or_false, false_or, or_true, true_or, and_false, false_and, hu_ho, ho_at, oc_at, oc_nc, oc_oc, adO_nc, rmO_nc, not_false_eq_true, Int.reduceEq, Int.pow_zero, Int.reducePow, Int.reduceMul, Int.reduceAdd, Int.reduceDiv, Int.reduceMod, Int.zero_add, Int.add_zero, Int.mul_one, Int.cast_ofNat_Int, c_has1, h8])
      · rw [if_neg h8, if_neg h8]
        refine vg_sound (fun _ _ => false) (fun m => m == 21 || m == 90 || m == 5 || m == 6) 100 _ _ _ _ _ _ ?_
        repeat' first | (with_reducible refine vT ?_ ?_; · omega) | (with_reducible refine vF ?_ ?_; · omega) | (with_reducible refine vI (fun _ => ?_) (fun _ => ?_)) | (simp (config := {maxSteps := 1000000}) (disch := (first | assumption | omega | (rw [hr_at]; assumption) | (rw [hr_at]; omega) | (repeat' first | assumption | decide | omega | refine FxB_nc ?_ ?_ | refine adO_B ?_ ?_ | refine rmO_B ?_ ?_))) only [f_X3_sellTicket, f_X7_isTicket, f_X1_isDrawn, f_X1_pool, wg_0, wg_s, wK_none, wK_N, wK_C, wK_R, wQ_some, wQ_none, stR, mZ, mC, stI, ini, mL, gI, gA, sI, sA, bi, gF, pF, kF, kT, kL, c2, mT, mR, f4, tsw, lsw, tgt, inR, Nat.reduceLT, Nat.reduceLeDiff, Nat.reduceEqDiff, Nat.reduceAdd, Nat.reduceSub, ↓reduceIte, Bool.false_eq_true, List.map_cons, List.map_nil, List.length_cons, List.length_nil, List.replicate, List.cons_append, List.nil_append, List.getElem?_cons_zero, List.getElem?_cons_succ, List.set, List.take_succ_cons, List.take_zero, List.drop_succ_cons, List.drop_zero, List.reverse_cons, List.reverse_nil, Int.reduceLE, Int.reduceLT, Int.reduceNeg, Int.reduceToNat, true_and, and_true, and_self, beq_iff_eq, Bool.and_eq_true, Bool.or_eq_true, or_false, false_or, or_true, true_or, and_false, false_and, hu_ho, ho_at, oc_at, oc_nc, oc_oc, adO_nc, rmO_nc, not_false_eq_true, Int.reduceEq, Int.pow_zero, Int.reducePow, Int.reduceMul, Int.reduceAdd, Int.reduceDiv, Int.reduceMod, Int.zero_add, Int.add_zero, Int.mul_one, Int.cast_ofNat_Int, c_has1, c_add1, e])
    · rw [if_neg h7, if_neg h7]
      refine vg_sound (fun _ _ => false) (fun m => m == 21 || m == 90 || m == 5 || m == 6) 100 _ _ _ _ _ _ ?_
      repeat' first | (with_reducible refine vT ?_ ?_; · omega) | (with_reducible refine vF ?_ ?_; · omega) | (with_reducible refine vI (fun _ => ?_) (fun _ => ?_)) | (simp (config := {maxSteps := 1000000}) (disch := (first | assumption | omega | (rw [hr_at]; assumption) | (rw [hr_at]; omega) | (repeat' first | assumption | decide | omega | refine FxB_nc ?_ ?_ | refine adO_B ?_ ?_ | refine rmO_B ?_ ?_))) only [f_X3_sellTicket, f_X7_isTicket, f_X1_isDrawn, f_X1_pool, wg_0, wg_s, wK_none, wK_N, wK_C, wK_R, wQ_some, wQ_none, stR, mZ, mC, stI, ini, mL, gI, gA, sI, sA, bi, gF, pF, kF, kT, kL, c2, mT, mR, f4, tsw, lsw, tgt, inR, Nat.reduceLT, Nat.reduceLeDiff, Nat.reduceEqDiff, Nat.reduceAdd, Nat.reduceSub, ↓reduceIte, Bool.false_eq_true, List.map_cons, List.map_nil, List.length_cons, List.length_nil, List.replicate, List.cons_append, List.nil_append, List.getElem?_cons_zero, List.getElem?_cons_succ, List.set, List.take_succ_cons, List.take_zero, List.drop_succ_cons, List.drop_zero, List.reverse_cons, List.reverse_nil, Int.reduceLE, Int.reduceLT, Int.reduceNeg, Int.reduceToNat, true_and, and_true, and_self, beq_iff_eq, Bool.and_eq_true, Bool.or_eq_true, or_false, false_or, or_true, true_or, and_false, false_and, hu_ho, ho_at, oc_at, oc_nc, oc_oc, adO_nc, rmO_nc, not_false_eq_true, Int.reduceEq, Int.pow_zero, Int.reducePow, Int.reduceMul, Int.reduceAdd, Int.reduceDiv, Int.reduceMod, Int.zero_add, Int.add_zero, Int.mul_one, Int.cast_ofNat_Int])
  · rw [if_neg h, if_neg h]
    refine vg_sound (fun _ _ => false) (fun m => m == 21 || m == 90) 60 _ _ _ _ _ _ ?_
    repeat' first | (with_reducible refine vT ?_ ?_; · omega) | (with_reducible refine vF ?_ ?_; · omega) | (with_reducible refine vI (fun _ => ?_) (fun _ => ?_)) | (simp (config := {maxSteps := 1000000}) (disch := (first | assumption | omega | (rw [hr_at]; assumption) | (rw [hr_at]; omega) | (repeat' first | assumption | decide | omega | refine FxB_nc ?_ ?_ | refine adO_B ?_ ?_ | refine rmO_B ?_ ?_))) only [f_X3_sellTicket, f_X7_isTicket, wg_0, wg_s, wK_none, wK_N, wK_C, wK_R, wQ_some, wQ_none, stR, mZ, mC, stI, ini, mL, gI, gA, sI, sA, bi, gF, pF, kF, kT, kL, c2, mT, mR, f4, tsw, lsw, tgt, inR, Nat.reduceLT, Nat.reduceLeDiff, Nat.reduceEqDiff, Nat.reduceAdd, Nat.reduceSub, ↓reduceIte, Bool.false_eq_true, List.map_cons, List.map_nil, List.length_cons, List.length_nil, List.replicate, List.cons_append, List.nil_append, List.getElem?_cons_zero, List.getElem?_cons_succ, List.set, List.take_succ_cons, List.take_zero, List.drop_succ_cons, List.drop_zero, List.reverse_cons, List.reverse_nil, Int.reduceLE, Int.reduceLT, Int.reduceNeg, Int.reduceToNat, true_and, and_true, and_self, beq_iff_eq, Bool.and_eq_true, Bool.or_eq_true, or_false, false_or, or_true, true_or, and_false, false_and, hu_ho, ho_at, oc_at, oc_nc, oc_oc, adO_nc, rmO_nc, not_false_eq_true, Int.reduceEq, Int.pow_zero, Int.reducePow, Int.reduceMul, Int.reduceAdd, Int.reduceDiv, Int.reduceMod, Int.zero_add, Int.add_zero, Int.mul_one, Int.cast_ofNat_Int])
def acV (O : Of) (w t : Int) : Int := if (0 ≤ w ∧ w < 3) ∧ 0 ≤ t ∧ t < 600 then (if 8 ≤ O 11 w then -3 else O 11 w + 1) else -1
def acO (O : Of) (w t : Int) : Of := if (0 ≤ w ∧ w < 3) ∧ 0 ≤ t ∧ t < 600 then (if 8 ≤ O 11 w then O else oc (oc O 10 (up (O 10) (w * 8 + O 11 w) t)) 11 (up (O 11) w (O 11 w + 1))) else O
set_option maxHeartbeats 4000000 in
set_option maxRecDepth 100000 in
theorem c_addCustomer {S : Hp} {k : Nat} {O : Of} {w t : Int} (hs : ∀ w : Int, 0 ≤ w → w < 3 → 0 ≤ O 11 w ∧ O 11 w ≤ 8) (hw : tdR w) (ht : tdR t) (Q : Option MV → Hp → Prop) : Wc 24 [.inr (k, 0), .inl w, .inl t] (ho S k O) Q = Q (some (.inl (acV O w t))) (ho S k (acO O w t)) := by
  refine Wc_eq ?_ Q
  unfold Wc
  unfold tdR at hw ht
  unfold acV acO
  by_cases h : (0 ≤ w ∧ w < 3) ∧ 0 ≤ t ∧ t < 600
  · rw [if_pos h, if_pos h]
    have hz := hs w h.1.1 h.1.2
    by_cases h8 : 8 ≤ O 11 w
    · rw [if_pos h8, if_pos h8]
      refine vg_sound (fun _ _ => false) (fun m => m == 24 || m == 92 || m == 90 || m == 53) 100 _ _ _ _ _ _ ?_
      repeat' first | (with_reducible refine vT ?_ ?_; · omega) | (with_reducible refine vF ?_ ?_; · omega) | (with_reducible refine vI (fun _ => ?_) (fun _ => ?_)) | (simp (config := {maxSteps := 1000000}) (disch := (first | assumption | omega | (rw [hr_at]; assumption) | (rw [hr_at]; omega) | (repeat' first | assumption | decide | omega | refine FxB_nc ?_ ?_ | refine adO_B ?_ ?_ | refine rmO_B ?_ ?_))) only [f_X3_addCustomer, f_X7_isWindow, f_X7_isTicket, f_X6_append, wg_0, wg_s, wK_none, wK_N, wK_C, wK_R, wQ_some, wQ_none, stR, mZ, mC, stI, ini, mL, gI, gA, sI, sA, bi, gF, pF, kF, kT, kL, c2, mT, mR, f4, tsw, lsw, tgt, inR, Nat.reduceLT, Nat.reduceLeDiff, Nat.reduceEqDiff, Nat.reduceAdd, Nat.reduceSub, ↓reduceIte, Bool.false_eq_true, List.map_cons, List.map_nil, List.length_cons, List.length_nil, List.replicate, List.cons_append, List.nil_append, List.getElem?_cons_zero, List.getElem?_cons_succ, List.set, List.take_succ_cons, List.take_zero, List.drop_succ_cons, List.drop_zero, List.reverse_cons, List.reverse_nil, Int.reduceLE, Int.reduceLT, Int.reduceNeg, Int.reduceToNat, true_and, and_true, and_self, beq_iff_eq, Bool.and_eq_true, Bool.or_eq_true, or_false, false_or, or_true, true_or, and_false, false_and, hu_ho, ho_at, oc_at, oc_nc, oc_oc, adO_nc, rmO_nc, not_false_eq_true, Int.reduceEq, Int.pow_zero, Int.reducePow, Int.reduceMul, Int.reduceAdd, Int.reduceDiv, Int.reduceMod, Int.zero_add, Int.add_zero, Int.mul_one, Int.cast_ofNat_Int])
    · rw [if_neg h8, if_neg h8]
      refine vg_sound (fun _ _ => false) (fun m => m == 24 || m == 92 || m == 90 || m == 53) 100 _ _ _ _ _ _ ?_
      repeat' first | (with_reducible refine vT ?_ ?_; · omega) | (with_reducible refine vF ?_ ?_; · omega) | (with_reducible refine vI (fun _ => ?_) (fun _ => ?_)) | (simp (config := {maxSteps := 1000000}) (disch := (first | assumption | omega | (rw [hr_at]; assumption) | (rw [hr_at]; omega) | (repeat' first | assumption | decide | omega | refine FxB_nc ?_ ?_ | refine adO_B ?_ ?_ | refine rmO_B ?_ ?_))) only [f_X3_addCustomer, f_X7_isWindow, f_X7_isTicket, f_X6_append, wg_0, wg_s, wK_none, wK_N, wK_C, wK_R, wQ_some, wQ_none, stR, mZ, mC, stI, ini, mL, gI, gA, sI, sA, bi, gF, pF, kF, kT, kL, c2, mT, mR, f4, tsw, lsw, tgt, inR, Nat.reduceLT, Nat.reduceLeDiff, Nat.reduceEqDiff, Nat.reduceAdd, Nat.reduceSub, ↓reduceIte, Bool.false_eq_true, List.map_cons, List.map_nil, List.length_cons, List.length_nil, List.replicate, List.cons_append, List.nil_append, List.getElem?_cons_zero, List.getElem?_cons_succ, List.set, List.take_succ_cons, List.take_zero, List.drop_succ_cons, List.drop_zero, List.reverse_cons, List.reverse_nil, Int.reduceLE, Int.reduceLT, Int.reduceNeg, Int.reduceToNat, true_and, and_true, and_self, beq_iff_eq, Bool.and_eq_true, Bool.or_eq_true, or_false, false_or, or_true, true_or, and_false, false_and, hu_ho, ho_at, oc_at, oc_nc, oc_oc, adO_nc, rmO_nc, not_false_eq_true, Int.reduceEq, Int.pow_zero, Int.reducePow, Int.reduceMul, Int.reduceAdd, Int.reduceDiv, Int.reduceMod, Int.zero_add, Int.add_zero, Int.mul_one, Int.cast_ofNat_Int])
  · rw [if_neg h, if_neg h]
    refine vg_sound (fun _ _ => false) (fun m => m == 24 || m == 92 || m == 90) 100 _ _ _ _ _ _ ?_
    repeat' first | (with_reducible refine vT ?_ ?_; · omega) | (with_reducible refine vF ?_ ?_; · omega) | (with_reducible refine vI (fun _ => ?_) (fun _ => ?_)) | (simp (config := {maxSteps := 1000000}) (disch := (first | assumption | omega | (rw [hr_at]; assumption) | (rw [hr_at]; omega) | (repeat' first | assumption | decide | omega | refine FxB_nc ?_ ?_ | refine adO_B ?_ ?_ | refine rmO_B ?_ ?_))) only [f_X3_addCustomer, f_X7_isWindow, f_X7_isTicket, wg_0, wg_s, wK_none, wK_N, wK_C, wK_R, wQ_some, wQ_none, stR, mZ, mC, stI, ini, mL, gI, gA, sI, sA, bi, gF, pF, kF, kT, kL, c2, mT, mR, f4, tsw, lsw, tgt, inR, Nat.reduceLT, Nat.reduceLeDiff, Nat.reduceEqDiff, Nat.reduceAdd, Nat.reduceSub, ↓reduceIte, Bool.false_eq_true, List.map_cons, List.map_nil, List.length_cons, List.length_nil, List.replicate, List.cons_append, List.nil_append, List.getElem?_cons_zero, List.getElem?_cons_succ, List.set, List.take_succ_cons, List.take_zero, List.drop_succ_cons, List.drop_zero, List.reverse_cons, List.reverse_nil, Int.reduceLE, Int.reduceLT, Int.reduceNeg, Int.reduceToNat, true_and, and_true, and_self, beq_iff_eq, Bool.and_eq_true, Bool.or_eq_true, or_false, false_or, or_true, true_or, and_false, false_and, hu_ho, ho_at, oc_at, oc_nc, oc_oc, adO_nc, rmO_nc, not_false_eq_true, Int.reduceEq, Int.pow_zero, Int.reducePow, Int.reduceMul, Int.reduceAdd, Int.reduceDiv, Int.reduceMod, Int.zero_add, Int.add_zero, Int.mul_one, Int.cast_ofNat_Int])
def cgV (O : Of) (w v : Int) : Int := if setOk w v then (if O 1 w = v then -5 else O 1 w) else -2
def cgO (O : Of) (w v : Int) : Of := if setOk w v then (if O 1 w = v then O else oc O 1 (up (O 1) w v)) else O
set_option maxHeartbeats 4000000 in
set_option maxRecDepth 100000 in
theorem sv_37 {w : Int} (h : 0 ≤ w ∧ w ≤ 2) : sv 37 w = if w = 0 then 0 else 1 := rfl
set_option maxHeartbeats 4000000 in
set_option maxRecDepth 100000 in
theorem sv_38 {w : Int} (h : 0 ≤ w ∧ w ≤ 2) : sv 38 w = mstC w := by
  rcases (show w = 0 ∨ w = 1 ∨ w = 2 by omega) with rfl | rfl | rfl <;> rfl
set_option maxHeartbeats 4000000 in
set_option maxRecDepth 100000 in
theorem c_changeSetting {S : Hp} {k : Nat} {O : Of} {w v : Int} (hw : tdR w) (hv : tdR v) (hm : ∀ w : Int, 0 ≤ w → w ≤ 2 → 0 ≤ O 1 w ∧ O 1 w ≤ 20) (Q : Option MV → Hp → Prop) : Wc 27 [.inr (k, 0), .inl w, .inl v] (ho S k O) Q = Q (some (.inl (cgV O w v))) (ho S k (cgO O w v)) := by
  refine Wc_eq ?_ Q
  unfold Wc
  unfold tdR at hw hv
  unfold cgV cgO
  by_cases h0 : 0 ≤ w ∧ w ≤ 2
  · have e1 := sv_37 h0
    have e2 := sv_38 h0
    have hm1 := hm w h0.1 h0.2
    have hc : 0 ≤ mstC w ∧ mstC w ≤ 20 := by unfold mstC; repeat' split <;> omega
    have hl : 0 ≤ (if w = 0 then (0 : Int) else 1) ∧ (if w = 0 then (0 : Int) else 1) ≤ 1 := by split <;> omega
    unfold setOk
    generalize (if w = 0 then (0 : Int) else 1) = a at *
    generalize mstC w = b at *
    by_cases h : (0 ≤ w ∧ w ≤ 2) ∧ a ≤ v ∧ v ≤ b
    · rw [if_pos h, if_pos h]
      by_cases e : O 1 w = v
      · rw [if_pos e, if_pos e]
        refine vg_sound (fun _ _ => false) (fun m => m == 27 || m == 94) 100 _ _ _ _ _ _ ?_
        repeat' first | (with_reducible refine vT ?_ ?_; · omega) | (with_reducible refine vF ?_ ?_; · omega) | (with_reducible refine vI (fun _ => ?_) (fun _ => ?_)) | (simp (config := {maxSteps := 1000000}) (disch := (first | assumption | omega | (rw [hr_at]; assumption) | (rw [hr_at]; omega) | (repeat' first | assumption | decide | omega | refine FxB_nc ?_ ?_ | refine adO_B ?_ ?_ | refine rmO_B ?_ ?_))) only [f_X3_changeSetting, f_X7_isSetting, wg_0, wg_s, wK_none, wK_N, wK_C, wK_R, wQ_some, wQ_none, stR, mZ, mC, stI, ini, mL, gI, gA, sI, sA, bi, gF, pF, kF, kT, kL, c2, mT, mR, f4, tsw, lsw, tgt, inR, Nat.reduceLT, Nat.reduceLeDiff, Nat.reduceEqDiff, Nat.reduceAdd, Nat.reduceSub, ↓reduceIte, Bool.false_eq_true, List.map_cons, List.map_nil, List.length_cons, List.length_nil, List.replicate, List.cons_append, List.nil_append, List.getElem?_cons_zero, List.getElem?_cons_succ, List.set, List.take_succ_cons, List.take_zero, List.drop_succ_cons, List.drop_zero, List.reverse_cons, List.reverse_nil, Int.reduceLE, Int.reduceLT, Int.reduceNeg, Int.reduceToNat, true_and, and_true, and_self, beq_iff_eq, Bool.and_eq_true, Bool.or_eq_true, or_false, false_or, or_true, true_or, and_false, false_and, hu_ho, ho_at, oc_at, oc_nc, oc_oc, adO_nc, rmO_nc, not_false_eq_true, Int.reduceEq, Int.pow_zero, Int.reducePow, Int.reduceMul, Int.reduceAdd, Int.reduceDiv, Int.reduceMod, Int.zero_add, Int.add_zero, Int.mul_one, Int.cast_ofNat_Int, e1, e2])
      · rw [if_neg e, if_neg e]
        refine vg_sound (fun _ _ => false) (fun m => m == 27 || m == 94) 100 _ _ _ _ _ _ ?_
        repeat' first | (with_reducible refine vT ?_ ?_; · omega) | (with_reducible refine vF ?_ ?_; · omega) | (with_reducible refine vI (fun _ => ?_) (fun _ => ?_)) | (simp (config := {maxSteps := 1000000}) (disch := (first | assumption | omega | (rw [hr_at]; assumption) | (rw [hr_at]; omega) | (repeat' first | assumption | decide | omega | refine FxB_nc ?_ ?_ | refine adO_B ?_ ?_ | refine rmO_B ?_ ?_))) only [f_X3_changeSetting, f_X7_isSetting, wg_0, wg_s, wK_none, wK_N, wK_C, wK_R, wQ_some, wQ_none, stR, mZ, mC, stI, ini, mL, gI, gA, sI, sA, bi, gF, pF, kF, kT, kL, c2, mT, mR, f4, tsw, lsw, tgt, inR, Nat.reduceLT, Nat.reduceLeDiff, Nat.reduceEqDiff, Nat.reduceAdd, Nat.reduceSub, ↓reduceIte, Bool.false_eq_true, List.map_cons, List.map_nil, List.length_cons, List.length_nil, List.replicate, List.cons_append, List.nil_append, List.getElem?_cons_zero, List.getElem?_cons_succ, List.set, List.take_succ_cons, List.take_zero, List.drop_succ_cons, List.drop_zero, List.reverse_cons, List.reverse_nil, Int.reduceLE, Int.reduceLT, Int.reduceNeg, Int.reduceToNat, true_and, and_true, and_self, beq_iff_eq, Bool.and_eq_true, Bool.or_eq_true, or_false, false_or, or_true, true_or, and_false, false_and, hu_ho, ho_at, oc_at, oc_nc, oc_oc, adO_nc, rmO_nc, not_false_eq_true, Int.reduceEq, Int.pow_zero, Int.reducePow, Int.reduceMul, Int.reduceAdd, Int.reduceDiv, Int.reduceMod, Int.zero_add, Int.add_zero, Int.mul_one, Int.cast_ofNat_Int, e1, e2])
    · rw [if_neg h, if_neg h]
      refine vg_sound (fun _ _ => false) (fun m => m == 27 || m == 94) 100 _ _ _ _ _ _ ?_
      repeat' first | (with_reducible refine vT ?_ ?_; · omega) | (with_reducible refine vF ?_ ?_; · omega) | (with_reducible refine vI (fun _ => ?_) (fun _ => ?_)) | (simp (config := {maxSteps := 1000000}) (disch := (first | assumption | omega | (rw [hr_at]; assumption) | (rw [hr_at]; omega) | (repeat' first | assumption | decide | omega | refine FxB_nc ?_ ?_ | refine adO_B ?_ ?_ | refine rmO_B ?_ ?_))) only [f_X3_changeSetting, f_X7_isSetting, wg_0, wg_s, wK_none, wK_N, wK_C, wK_R, wQ_some, wQ_none, stR, mZ, mC, stI, ini, mL, gI, gA, sI, sA, bi, gF, pF, kF, kT, kL, c2, mT, mR, f4, tsw, lsw, tgt, inR, Nat.reduceLT, Nat.reduceLeDiff, Nat.reduceEqDiff, Nat.reduceAdd, Nat.reduceSub, ↓reduceIte, Bool.false_eq_true, List.map_cons, List.map_nil, List.length_cons, List.length_nil, List.replicate, List.cons_append, List.nil_append, List.getElem?_cons_zero, List.getElem?_cons_succ, List.set, List.take_succ_cons, List.take_zero, List.drop_succ_cons, List.drop_zero, List.reverse_cons, List.reverse_nil, Int.reduceLE, Int.reduceLT, Int.reduceNeg, Int.reduceToNat, true_and, and_true, and_self, beq_iff_eq, Bool.and_eq_true, Bool.or_eq_true, or_false, false_or, or_true, true_or, and_false, false_and, hu_ho, ho_at, oc_at, oc_nc, oc_oc, adO_nc, rmO_nc, not_false_eq_true, Int.reduceEq, Int.pow_zero, Int.reducePow, Int.reduceMul, Int.reduceAdd, Int.reduceDiv, Int.reduceMod, Int.zero_add, Int.add_zero, Int.mul_one, Int.cast_ofNat_Int, e1, e2])
  · rw [if_neg (fun q => h0 q.1), if_neg (fun q => h0 q.1)]
    refine vg_sound (fun _ _ => false) (fun m => m == 27 || m == 94) 100 _ _ _ _ _ _ ?_
    repeat' first | (with_reducible refine vT ?_ ?_; · omega) | (with_reducible refine vF ?_ ?_; · omega) | (with_reducible refine vI (fun _ => ?_) (fun _ => ?_)) | (simp (config := {maxSteps := 1000000}) (disch := (first | assumption | omega | (rw [hr_at]; assumption) | (rw [hr_at]; omega) | (repeat' first | assumption | decide | omega | refine FxB_nc ?_ ?_ | refine adO_B ?_ ?_ | refine rmO_B ?_ ?_))) only [f_X3_changeSetting, f_X7_isSetting, wg_0, wg_s, wK_none, wK_N, wK_C, wK_R, wQ_some, wQ_none, stR, mZ, mC, stI, ini, mL, gI, gA, sI, sA, bi, gF, pF, kF, kT, kL, c2, mT, mR, f4, tsw, lsw, tgt, inR, Nat.reduceLT, Nat.reduceLeDiff, Nat.reduceEqDiff, Nat.reduceAdd, Nat.reduceSub, ↓reduceIte, Bool.false_eq_true, List.map_cons, List.map_nil, List.length_cons, List.length_nil, List.replicate, List.cons_append, List.nil_append, List.getElem?_cons_zero, List.getElem?_cons_succ, List.set, List.take_succ_cons, List.take_zero, List.drop_succ_cons, List.drop_zero, List.reverse_cons, List.reverse_nil, Int.reduceLE, Int.reduceLT, Int.reduceNeg, Int.reduceToNat, true_and, and_true, and_self, beq_iff_eq, Bool.and_eq_true, Bool.or_eq_true, or_false, false_or, or_true, true_or, and_false, false_and, hu_ho, ho_at, oc_at, oc_nc, oc_oc, adO_nc, rmO_nc, not_false_eq_true, Int.reduceEq, Int.pow_zero, Int.reducePow, Int.reduceMul, Int.reduceAdd, Int.reduceDiv, Int.reduceMod, Int.zero_add, Int.add_zero, Int.mul_one, Int.cast_ofNat_Int])
