/-! THE CLASS: draws by lot, who goes -/
def axO (O : Of) (t c : Int) : Of := oc O 3 (up (O 3) t (O 3 t + 8 * c))
set_option maxHeartbeats 4000000 in
set_option maxRecDepth 100000 in
theorem or_class {z c : Int} (hz : 0 ≤ z ∧ z < 16384) (hc : 1 ≤ c ∧ c ≤ 3) (h0 : z / 8 % 4 = 0) : bOr z (8 * c) = z + 8 * c := by
  have a1 := or_bit (i := 3) hz (by decide)
  have a2 := or_bit (i := 4) hz (by decide)
  have d3 : z / 2 ^ 3 % 2 = 0 := by
    have e : (2 : Int) ^ 3 = 8 := by decide
    rw [e]; omega
  have d4 : z / 2 ^ 4 % 2 = 0 := by
    have e : (2 : Int) ^ 4 = 16 := by decide
    rw [e]; omega
  rw [d3] at a1
  rw [d4] at a2
  have e3 : (2 : Int) ^ 3 = 8 := by decide
  have e4 : (2 : Int) ^ 4 = 16 := by decide
  rw [e3] at a1
  rw [e4] at a2
  rcases (show c = 1 ∨ c = 2 ∨ c = 3 by omega) with rfl | rfl | rfl
  · rw [show (8 * 1 : Int) = 8 by decide, a1]; omega
  · rw [show (8 * 2 : Int) = 16 by decide, a2]; omega
  · rw [show (8 * 3 : Int) = 24 by decide]
    obtain ⟨a, rfl⟩ : ∃ a : Nat, z = a := ⟨z.toNat, by omega⟩
    have b1 := bO a 8 (by omega) (by decide)
    have b2 := bO (a ||| 8) 16 (by
      have h : (((a ||| 8 : Nat)) : Int) = (a : Int) + 8 := by
        have q := b1
        rw [show ((8 : Nat) : Int) = 8 from rfl, a1] at q
        omega
      omega) (by decide)
    have b3 := bO a 24 (by omega) (by decide)
    have b4 : a ||| 24 = (a ||| 8) ||| 16 := by rw [Nat.or_assoc, show (8 ||| 16 : Nat) = 24 by decide]
    have h : (((a ||| 8 : Nat)) : Int) = (a : Int) + 8 := by
      have q := b1
      rw [show ((8 : Nat) : Int) = 8 from rfl, a1] at q
      omega
    have a3 := or_bit (z := (a : Int) + 8) (i := 4) (by omega) (by decide)
    have d5 : ((a : Int) + 8) / 2 ^ 4 % 2 = 0 := by
      rw [e4] at d4 ⊢
      rw [e3] at d3
      omega
    rw [d5, e4] at a3
    rw [show ((24 : Nat) : Int) = 24 from rfl] at b3
    rw [show ((16 : Nat) : Int) = 16 from rfl, h, a3] at b2
    rw [b3, b4]
    omega
set_option maxHeartbeats 4000000 in
set_option maxRecDepth 100000 in
theorem axO_B {O : Of} {t c : Int} (hB : FxB O) (hc : 1 ≤ c ∧ c ≤ 3) (h0 : O 3 t / 8 % 4 = 0) : FxB (axO O t c) := by
  intro s h1 h2
  unfold axO
  rw [oc_at]
  have h := hB s h1 h2
  by_cases e : s = t
  · rw [up_eq e]
    rw [e] at h
    omega
  · rw [up_ne e]; exact h
set_option maxHeartbeats 4000000 in
set_option maxRecDepth 100000 in
theorem c_addK {S : Hp} {k : Nat} {O : Of} {t c : Int} (hB : FxB O) (ht : 0 ≤ t ∧ t < 600) (hc : 1 ≤ c ∧ c ≤ 3) (h0 : O 3 t / 8 % 4 = 0) (Q : Option MV → Hp → Prop) : Wc 45 [.inr (k, 2), .inl t, .inl (8 * c)] (ho S k O) Q = Q none (ho S k (axO O t c)) := by
  refine Wc_eq ?_ Q
  unfold Wc axO
  have e := or_class (hB t ht.1 ht.2) hc h0
  refine vg_sound (fun _ _ => false) (fun m => m == 45) 40 _ _ _ _ _ _ ?_
  repeat' first | (with_reducible refine vT ?_ ?_; · omega) | (with_reducible refine vF ?_ ?_; · omega) | (with_reducible refine vI (fun _ => ?_) (fun _ => ?_)) | (simp (config := {maxSteps := 1000000}) (disch := (first | assumption | omega | (rw [hr_at]; assumption) | (rw [hr_at]; omega) | (repeat' first | assumption | decide | omega | refine FxB_nc ?_ ?_ | refine adO_B ?_ ?_ | refine rmO_B ?_ ?_))) only [f_X5_add, wg_0, wg_s, wK_none, wK_N, wK_C, wK_R, wQ_some, wQ_none, stR, mZ, mC, stI, ini, mL, gI, gA, sI, sA, bi, gF, pF, kF, kT, kL, c2, mT, mR, f4, tsw, lsw, tgt, inR, Nat.reduceLT, Nat.reduceLeDiff, Nat.reduceEqDiff, Nat.reduceAdd, Nat.reduceSub, ↓reduceIte, Bool.false_eq_true, List.map_cons, List.map_nil, List.length_cons, List.length_nil, List.replicate, List.cons_append, List.nil_append, List.getElem?_cons_zero, List.getElem?_cons_succ, List.set, List.take_succ_cons, List.take_zero, List.drop_succ_cons, List.drop_zero, List.reverse_cons, List.reverse_nil, Int.reduceLE, Int.reduceLT, Int.reduceNeg, Int.reduceToNat, true_and, and_true, and_self, beq_iff_eq, Bool.and_eq_true, Bool.or_eq_true, or_false, false_or, or_true, true_or, and_false, false_and, hu_ho, ho_at, oc_at, oc_nc, oc_oc, adO_nc, rmO_nc, not_false_eq_true, Int.reduceEq, Int.pow_zero, Int.reducePow, Int.reduceMul, Int.reduceAdd, Int.reduceDiv, Int.reduceMod, Int.zero_add, Int.add_zero, Int.mul_one, Int.cast_ofNat_Int, e])
def dwS (O : Of) (d w n : Int) : Of := if 0 < clN n w ∧ fb O (d * 100 + n) 0 = 1 then oc (axO O (d * 100 + n) (clN n w)) 8 (up (O 8) (d * 3 + clN n w - 1) (O 8 (d * 3 + clN n w - 1) + 1)) else O
set_option maxHeartbeats 4000000 in
set_option maxRecDepth 100000 in
theorem clN_03 (n w : Int) : 0 ≤ clN n w ∧ clN n w ≤ 3 := by
  unfold clN
  repeat' split
  all_goals omega
set_option maxHeartbeats 4000000 in
set_option maxRecDepth 100000 in
theorem c_classN {S : Hp} {n w : Int} (hn : 0 ≤ n ∧ n < 100) (hw : 0 ≤ w ∧ w < 100) (Q : Option MV → Hp → Prop) : Wc 23 [.inl n, .inl w] S Q = Q (some (.inl (clN n w))) S := by
  refine Wc_eq ?_ Q
  unfold Wc clN
  refine vg_sound (fun _ _ => false) (fun m => m == 23) 60 _ _ _ _ _ _ ?_
  repeat' first | (with_reducible refine vT ?_ ?_; · omega) | (with_reducible refine vF ?_ ?_; · omega) | (with_reducible refine vI (fun _ => ?_) (fun _ => ?_)) | (simp (config := {maxSteps := 1000000}) (disch := (first | assumption | omega | (rw [hr_at]; assumption) | (rw [hr_at]; omega))) only [f_X3_classOfNumber, wg_0, wg_s, wK_none, wK_N, wK_C, wK_R, wQ_some, wQ_none, stR, mZ, mC, stI, ini, mL, gI, gA, sI, sA, bi, gF, pF, kF, kT, kL, c2, mT, mR, f4, tsw, lsw, tgt, inR, Nat.reduceLT, Nat.reduceLeDiff, Nat.reduceEqDiff, Nat.reduceAdd, Nat.reduceSub, ↓reduceIte, Bool.false_eq_true, List.map_cons, List.map_nil, List.length_cons, List.length_nil, List.replicate, List.cons_append, List.nil_append, List.getElem?_cons_zero, List.getElem?_cons_succ, List.set, List.take_succ_cons, List.take_zero, List.drop_succ_cons, List.drop_zero, List.reverse_cons, List.reverse_nil, Int.reduceLE, Int.reduceLT, Int.reduceNeg, Int.reduceToNat, true_and, and_true, and_self, beq_iff_eq, Bool.and_eq_true, Bool.or_eq_true, or_false, false_or, or_true, true_or, and_false, false_and, hu_hr, hr_hr, hr_at, hr_nc, not_false_eq_true, Int.reduceEq, Int.pow_zero, Int.reducePow, Int.reduceMul, Int.reduceAdd, Int.reduceDiv, Int.reduceMod, Int.zero_add, Int.add_zero, Int.mul_one, Int.cast_ofNat_Int])
  all_goals (simp only [Option.some.injEq, Sum.inl.injEq])
  all_goals (repeat (first | rw [if_pos (by omega)] | rw [if_neg (by omega)]))
set_option maxHeartbeats 4000000 in
set_option maxRecDepth 100000 in
theorem dw_step {S : Hp} {k : Nat} {O : Of} {d w z : Int} {y1 y2 : Option MV} {Q : Option MV → Hp → Prop} (hB : FxB O) (hd : 0 ≤ d ∧ d < 6) (hw : 0 ≤ w ∧ w < 100) (hz : 0 ≤ z ∧ z < 100) (h0 : O 3 (d * 100 + z) / 8 % 4 = 0) (h : ∀ y1 y2 : Option MV, Wp 22 60 [some (.inr (k, 0)), some (.inl d), some (.inl w), some (.inl (z + 1)), y1, y2] [] (ho S k (dwS O d w z)) Q) : Wp 22 60 [some (.inr (k, 0)), some (.inl d), some (.inl w), some (.inl z), y1, y2] [] (ho S k O) Q := by
  have hc := clN_03 z w
  have q := fb_01 O (d * 100 + z) 0
  have r1 := fun Q => c_classN (S := ho S k O) hz hw Q
  unfold dwS at h
  by_cases c1 : 0 < clN z w
  · have r2 := fun Q => c_addK (S := S) (k := k) (O := O) (t := d * 100 + z) (c := clN z w) hB (by omega) (by omega) h0 Q
    have e8 : axO O (d * 100 + z) (clN z w) 8 = O 8 := oc_nc (by decide)
    generalize clN z w = c at *
    by_cases c3 : fb O (d * 100 + z) 0 = 1
    · rw [if_pos ⟨c1, c3⟩] at h
      refine vg_cut (fun m pc => (m == 22 && pc == 60)) (fun m => m == 22 || m == 8) 100 _ _ _ _ _ _ ?_
      repeat' first | (with_reducible refine vT ?_ ?_; · omega) | (with_reducible refine vF ?_ ?_; · omega) | (with_reducible refine vI (fun _ => ?_) (fun _ => ?_)) | (simp (config := {maxSteps := 1000000}) (disch := (first | assumption | omega | (rw [hr_at]; assumption) | (rw [hr_at]; omega) | (repeat' first | assumption | decide | omega | refine FxB_nc ?_ ?_ | refine adO_B ?_ ?_ | refine rmO_B ?_ ?_))) only [f_X3_drawByLot, f_X1_addWinner, wg_0, wg_s, wK_none, wK_N, wK_C, wK_R, wQ_some, wQ_none, stR, mZ, mC, stI, ini, mL, gI, gA, sI, sA, bi, gF, pF, kF, kT, kL, c2, mT, mR, f4, tsw, lsw, tgt, inR, Nat.reduceLT, Nat.reduceLeDiff, Nat.reduceEqDiff, Nat.reduceAdd, Nat.reduceSub, ↓reduceIte, Bool.false_eq_true, List.map_cons, List.map_nil, List.length_cons, List.length_nil, List.replicate, List.cons_append, List.nil_append, List.getElem?_cons_zero, List.getElem?_cons_succ, List.set, List.take_succ_cons, List.take_zero, List.drop_succ_cons, List.drop_zero, List.reverse_cons, List.reverse_nil, Int.reduceLE, Int.reduceLT, Int.reduceNeg, Int.reduceToNat, true_and, and_true, and_self, beq_iff_eq, Bool.and_eq_true, Bool.or_eq_true, or_false, false_or, or_true, true_or, and_false, false_and, hu_ho, ho_at, oc_at, oc_nc, oc_oc, adO_nc, rmO_nc, not_false_eq_true, Int.reduceEq, Int.pow_zero, Int.reducePow, Int.reduceMul, Int.reduceAdd, Int.reduceDiv, Int.reduceMod, Int.zero_add, Int.add_zero, Int.mul_one, Int.cast_ofNat_Int, r1, c_has1, c3, r2, e8])
      exact h _ _
    · rw [if_neg (fun q => c3 q.2)] at h
      refine vg_cut (fun m pc => (m == 22 && pc == 60)) (fun m => m == 22 || m == 8) 100 _ _ _ _ _ _ ?_
      repeat' first | (with_reducible refine vT ?_ ?_; · omega) | (with_reducible refine vF ?_ ?_; · omega) | (with_reducible refine vI (fun _ => ?_) (fun _ => ?_)) | (simp (config := {maxSteps := 1000000}) (disch := (first | assumption | omega | (rw [hr_at]; assumption) | (rw [hr_at]; omega) | (repeat' first | assumption | decide | omega | refine FxB_nc ?_ ?_ | refine adO_B ?_ ?_ | refine rmO_B ?_ ?_))) only [f_X3_drawByLot, f_X1_addWinner, wg_0, wg_s, wK_none, wK_N, wK_C, wK_R, wQ_some, wQ_none, stR, mZ, mC, stI, ini, mL, gI, gA, sI, sA, bi, gF, pF, kF, kT, kL, c2, mT, mR, f4, tsw, lsw, tgt, inR, Nat.reduceLT, Nat.reduceLeDiff, Nat.reduceEqDiff, Nat.reduceAdd, Nat.reduceSub, ↓reduceIte, Bool.false_eq_true, List.map_cons, List.map_nil, List.length_cons, List.length_nil, List.replicate, List.cons_append, List.nil_append, List.getElem?_cons_zero, List.getElem?_cons_succ, List.set, List.take_succ_cons, List.take_zero, List.drop_succ_cons, List.drop_zero, List.reverse_cons, List.reverse_nil, Int.reduceLE, Int.reduceLT, Int.reduceNeg, Int.reduceToNat, true_and, and_true, and_self, beq_iff_eq, Bool.and_eq_true, Bool.or_eq_true, or_false, false_or, or_true, true_or, and_false, false_and, hu_ho, ho_at, oc_at, oc_nc, oc_oc, adO_nc, rmO_nc, not_false_eq_true, Int.reduceEq, Int.pow_zero, Int.reducePow, Int.reduceMul, Int.reduceAdd, Int.reduceDiv, Int.reduceMod, Int.zero_add, Int.add_zero, Int.mul_one, Int.cast_ofNat_Int, r1, c_has1, r2, e8])
      exact h _ _
  · rw [if_neg (fun q => c1 q.1)] at h
    generalize clN z w = c at *
    refine vg_cut (fun m pc => (m == 22 && pc == 60)) (fun m => m == 22 || m == 8) 100 _ _ _ _ _ _ ?_
    repeat' first | (with_reducible refine vT ?_ ?_; · omega) | (with_reducible refine vF ?_ ?_; · omega) | (with_reducible refine vI (fun _ => ?_) (fun _ => ?_)) | (simp (config := {maxSteps := 1000000}) (disch := (first | assumption | omega | (rw [hr_at]; assumption) | (rw [hr_at]; omega) | (repeat' first | assumption | decide | omega | refine FxB_nc ?_ ?_ | refine adO_B ?_ ?_ | refine rmO_B ?_ ?_))) only [f_X3_drawByLot, f_X1_addWinner, wg_0, wg_s, wK_none, wK_N, wK_C, wK_R, wQ_some, wQ_none, stR, mZ, mC, stI, ini, mL, gI, gA, sI, sA, bi, gF, pF, kF, kT, kL, c2, mT, mR, f4, tsw, lsw, tgt, inR, Nat.reduceLT, Nat.reduceLeDiff, Nat.reduceEqDiff, Nat.reduceAdd, Nat.reduceSub, ↓reduceIte, Bool.false_eq_true, List.map_cons, List.map_nil, List.length_cons, List.length_nil, List.replicate, List.cons_append, List.nil_append, List.getElem?_cons_zero, List.getElem?_cons_succ, List.set, List.take_succ_cons, List.take_zero, List.drop_succ_cons, List.drop_zero, List.reverse_cons, List.reverse_nil, Int.reduceLE, Int.reduceLT, Int.reduceNeg, Int.reduceToNat, true_and, and_true, and_self, beq_iff_eq, Bool.and_eq_true, Bool.or_eq_true, or_false, false_or, or_true, true_or, and_false, false_and, hu_ho, ho_at, oc_at, oc_nc, oc_oc, adO_nc, rmO_nc, not_false_eq_true, Int.reduceEq, Int.pow_zero, Int.reducePow, Int.reduceMul, Int.reduceAdd, Int.reduceDiv, Int.reduceMod, Int.zero_add, Int.add_zero, Int.mul_one, Int.cast_ofNat_Int, r1])
    exact h _ _
set_option maxHeartbeats 4000000 in
set_option maxRecDepth 100000 in
theorem dw_end {S : Hp} {k : Nat} {O : Of} {d w : Int} {y1 y2 : Option MV} {Q : Option MV → Hp → Prop} (h : Q (some (.inl w)) (ho S k O)) : Wp 22 60 [some (.inr (k, 0)), some (.inl d), some (.inl w), some (.inl 100), y1, y2] [] (ho S k O) Q := by
  refine vg_cut (fun m pc => (m == 22 && pc == 60)) (fun m => m == 22) 100 _ _ _ _ _ _ ?_
  repeat' first | (with_reducible refine vT ?_ ?_; · omega) | (with_reducible refine vF ?_ ?_; · omega) | (with_reducible refine vI (fun _ => ?_) (fun _ => ?_)) | (simp (config := {maxSteps := 1000000}) (disch := (first | assumption | omega | (rw [hr_at]; assumption) | (rw [hr_at]; omega) | (repeat' first | assumption | decide | omega | refine FxB_nc ?_ ?_ | refine adO_B ?_ ?_ | refine rmO_B ?_ ?_))) only [f_X3_drawByLot, wg_0, wg_s, wK_none, wK_N, wK_C, wK_R, wQ_some, wQ_none, stR, mZ, mC, stI, ini, mL, gI, gA, sI, sA, bi, gF, pF, kF, kT, kL, c2, mT, mR, f4, tsw, lsw, tgt, inR, Nat.reduceLT, Nat.reduceLeDiff, Nat.reduceEqDiff, Nat.reduceAdd, Nat.reduceSub, ↓reduceIte, Bool.false_eq_true, List.map_cons, List.map_nil, List.length_cons, List.length_nil, List.replicate, List.cons_append, List.nil_append, List.getElem?_cons_zero, List.getElem?_cons_succ, List.set, List.take_succ_cons, List.take_zero, List.drop_succ_cons, List.drop_zero, List.reverse_cons, List.reverse_nil, Int.reduceLE, Int.reduceLT, Int.reduceNeg, Int.reduceToNat, true_and, and_true, and_self, beq_iff_eq, Bool.and_eq_true, Bool.or_eq_true, or_false, false_or, or_true, true_or, and_false, false_and, hu_ho, ho_at, oc_at, oc_nc, oc_oc, adO_nc, rmO_nc, not_false_eq_true, Int.reduceEq, Int.pow_zero, Int.reducePow, Int.reduceMul, Int.reduceAdd, Int.reduceDiv, Int.reduceMod, Int.zero_add, Int.add_zero, Int.mul_one, Int.cast_ofNat_Int])
  exact h
def dwI (O : Of) (d w : Int) : Nat → Of
  | 0 => O
  | j + 1 => dwS (dwI O d w j) d w j
set_option maxHeartbeats 4000000 in
set_option maxRecDepth 100000 in
theorem dwI_hi {O : Of} {d w : Int} : ∀ (j : Nat) (t : Int), (t < d * 100 ∨ d * 100 + j ≤ t) → dwI O d w j 3 t = O 3 t
  | 0, t, _ => rfl
  | j + 1, t, h => by
    unfold dwI dwS
    split
    · rw [oc_nc (by decide)]
      unfold axO
      rw [oc_at, up_ne (by omega)]
      exact dwI_hi j t (by omega)
    · exact dwI_hi j t (by omega)
set_option maxHeartbeats 4000000 in
set_option maxRecDepth 100000 in
theorem dwI_B {O : Of} {d w : Int} (hd : 0 ≤ d ∧ d < 6) (hB : FxB O) (h0 : ∀ n : Int, 0 ≤ n → n < 100 → O 3 (d * 100 + n) / 8 % 4 = 0) : ∀ j : Nat, j ≤ 100 → FxB (dwI O d w j)
  | 0, _ => hB
  | j + 1, hj => by
    have ih := dwI_B (w := w) hd hB h0 j (by omega)
    unfold dwI dwS
    split
    · next c =>
      have hc := clN_03 j w
      refine FxB_nc (by decide) (axO_B ih (by omega) ?_)
      rw [dwI_hi j _ (by omega)]
      exact h0 j (by omega) (by omega)
    · exact ih
def lotN (z : Int) : Int := (75 * z + 74) % 65537
def dw0 (O : Of) (d : Int) : Of := oc (oc O 0 (up (O 0) 1 (lotN (O 0 1)))) 7 (up (O 7) d (lotN (O 0 1) % 100))
def dbV (O : Of) (d : Int) : Int := if 0 ≤ d ∧ d < 6 then (if O 7 d = -5 then lotN (O 0 1) % 100 else -4) else -1
def dbO (O : Of) (d : Int) : Of := if 0 ≤ d ∧ d < 6 then (if O 7 d = -5 then dwI (dw0 O d) d (lotN (O 0 1) % 100) 100 else O) else O
set_option maxHeartbeats 4000000 in
set_option maxRecDepth 100000 in
theorem c_drawByLot {S : Hp} {k : Nat} {O : Of} {d : Int} (hB : FxB O) (hG : WgB O) (hl : 0 ≤ O 0 1 ∧ O 0 1 < 65537) (h0 : ∀ d : Int, 0 ≤ d → d < 6 → O 7 d = -5 → ∀ n : Int, 0 ≤ n → n < 100 → O 3 (d * 100 + n) / 8 % 4 = 0) (hd : tdR d) (Q : Option MV → Hp → Prop) : Wc 22 [.inr (k, 0), .inl d] (ho S k O) Q = Q (some (.inl (dbV O d))) (ho S k (dbO O d)) := by
  refine Wc_eq ?_ Q
  unfold Wc
  unfold tdR at hd
  unfold dbV dbO
  by_cases h : 0 ≤ d ∧ d < 6
  · rw [if_pos h, if_pos h]
    have hg := hG d h.1 h.2
    by_cases h7 : O 7 d = -5
    · rw [if_pos h7, if_pos h7]
      have hw : 0 ≤ lotN (O 0 1) % 100 ∧ lotN (O 0 1) % 100 < 100 := by omega
      have hB0 : FxB (dw0 O d) := FxB_nc (by decide) (FxB_nc (by decide) hB)
      have h00 : ∀ n : Int, 0 ≤ n → n < 100 → dw0 O d 3 (d * 100 + n) / 8 % 4 = 0 := by
        intro n n1 n2
        unfold dw0
        rw [oc_nc (by decide), oc_nc (by decide)]
        exact h0 d h.1 h.2 h7 n n1 n2
      have go : ∀ y1 y2 : Option MV, Wp 22 60 [some (.inr (k, 0)), some (.inl d), some (.inl (lotN (O 0 1) % 100)), some (.inl 0), y1, y2] [] (ho S k (dw0 O d)) (fun r T => r = some (.inl (lotN (O 0 1) % 100)) ∧ T = ho S k (dwI (dw0 O d) d (lotN (O 0 1) % 100) 100)) := by
        obtain ⟨N, hN⟩ : ∃ N : Nat, N = 100 := ⟨_, rfl⟩
        rw [← hN]
        have key : ∀ e j : Nat, j + e = N → ∀ y1 y2 : Option MV, Wp 22 60 [some (.inr (k, 0)), some (.inl d), some (.inl (lotN (O 0 1) % 100)), some (.inl (j : Int)), y1, y2] [] (ho S k (dwI (dw0 O d) d (lotN (O 0 1) % 100) j)) (fun r T => r = some (.inl (lotN (O 0 1) % 100)) ∧ T = ho S k (dwI (dw0 O d) d (lotN (O 0 1) % 100) N)) := by
          intro e
          induction e with
          | zero =>
            intro j hj y1 y2
            obtain rfl : j = N := by omega
            have e1 : (j : Int) = 100 := by omega
            rw [e1]
            exact dw_end ⟨rfl, rfl⟩
          | succ e ih =>
            intro j hj y1 y2
            refine dw_step (dwI_B h hB0 h00 j (by omega)) h hw (by omega) (by rw [dwI_hi j _ (by omega)]; exact h00 j (by omega) (by omega)) (fun y1 y2 => ?_)
            have h1 := ih (j + 1) (by omega) y1 y2
            rw [Int.natCast_add] at h1
            exact h1
        exact fun y1 y2 => key N 0 (by omega) y1 y2
      unfold dw0 lotN at go ⊢
      have e1 : up (O 0) 1 ((75 * O 0 1 + 74) % 65537) 1 = (75 * O 0 1 + 74) % 65537 := up_eq rfl
      refine vg_sound (fun m pc => (m == 22 && pc == 60)) (fun m => m == 22 || m == 91 || m == 5) 100 _ _ _ _ _ _ ?_
      repeat' first | (with_reducible refine vT ?_ ?_; · omega) | (with_reducible refine vF ?_ ?_; · omega) | (with_reducible refine vI (fun _ => ?_) (fun _ => ?_)) | (simp (config := {maxSteps := 1000000}) (disch := (first | assumption | omega | (rw [hr_at]; assumption) | (rw [hr_at]; omega) | (repeat' first | assumption | decide | omega | refine FxB_nc ?_ ?_ | refine adO_B ?_ ?_ | refine rmO_B ?_ ?_))) only [f_X3_drawByLot, f_X7_isDraw, f_X1_isDrawn, wg_0, wg_s, wK_none, wK_N, wK_C, wK_R, wQ_some, wQ_none, stR, mZ, mC, stI, ini, mL, gI, gA, sI, sA, bi, gF, pF, kF, kT, kL, c2, mT, mR, f4, tsw, lsw, tgt, inR, Nat.reduceLT, Nat.reduceLeDiff, Nat.reduceEqDiff, Nat.reduceAdd, Nat.reduceSub, ↓reduceIte, Bool.false_eq_true, List.map_cons, List.map_nil, List.length_cons, List.length_nil, List.replicate, List.cons_append, List.nil_append, List.getElem?_cons_zero, List.getElem?_cons_succ, List.set, List.take_succ_cons, List.take_zero, List.drop_succ_cons, List.drop_zero, List.reverse_cons, List.reverse_nil, Int.reduceLE, Int.reduceLT, Int.reduceNeg, Int.reduceToNat, true_and, and_true, and_self, beq_iff_eq, Bool.and_eq_true, Bool.or_eq_true, or_false, false_or, or_true, true_or, and_false, false_and, hu_ho, ho_at, oc_at, oc_nc, oc_oc, adO_nc, rmO_nc, not_false_eq_true, Int.reduceEq, Int.pow_zero, Int.reducePow, Int.reduceMul, Int.reduceAdd, Int.reduceDiv, Int.reduceMod, Int.zero_add, Int.add_zero, Int.mul_one, Int.cast_ofNat_Int, e1])
      exact go _ _
    · rw [if_neg h7, if_neg h7]
      refine vg_sound (fun m pc => (m == 22 && pc == 60)) (fun m => m == 22 || m == 91 || m == 5) 100 _ _ _ _ _ _ ?_
      repeat' first | (with_reducible refine vT ?_ ?_; · omega) | (with_reducible refine vF ?_ ?_; · omega) | (with_reducible refine vI (fun _ => ?_) (fun _ => ?_)) | (simp (config := {maxSteps := 1000000}) (disch := (first | assumption | omega | (rw [hr_at]; assumption) | (rw [hr_at]; omega) | (repeat' first | assumption | decide | omega | refine FxB_nc ?_ ?_ | refine adO_B ?_ ?_ | refine rmO_B ?_ ?_))) only [f_X3_drawByLot, f_X7_isDraw, f_X1_isDrawn, wg_0, wg_s, wK_none, wK_N, wK_C, wK_R, wQ_some, wQ_none, stR, mZ, mC, stI, ini, mL, gI, gA, sI, sA, bi, gF, pF, kF, kT, kL, c2, mT, mR, f4, tsw, lsw, tgt, inR, Nat.reduceLT, Nat.reduceLeDiff, Nat.reduceEqDiff, Nat.reduceAdd, Nat.reduceSub, ↓reduceIte, Bool.false_eq_true, List.map_cons, List.map_nil, List.length_cons, List.length_nil, List.replicate, List.cons_append, List.nil_append, List.getElem?_cons_zero, List.getElem?_cons_succ, List.set, List.take_succ_cons, List.take_zero, List.drop_succ_cons, List.drop_zero, List.reverse_cons, List.reverse_nil, Int.reduceLE, Int.reduceLT, Int.reduceNeg, Int.reduceToNat, true_and, and_true, and_self, beq_iff_eq, Bool.and_eq_true, Bool.or_eq_true, or_false, false_or, or_true, true_or, and_false, false_and, hu_ho, ho_at, oc_at, oc_nc, oc_oc, adO_nc, rmO_nc, not_false_eq_true, Int.reduceEq, Int.pow_zero, Int.reducePow, Int.reduceMul, Int.reduceAdd, Int.reduceDiv, Int.reduceMod, Int.zero_add, Int.add_zero, Int.mul_one, Int.cast_ofNat_Int])
  · rw [if_neg h, if_neg h]
    refine vg_sound (fun m pc => (m == 22 && pc == 60)) (fun m => m == 22 || m == 91) 100 _ _ _ _ _ _ ?_
    repeat' first | (with_reducible refine vT ?_ ?_; · omega) | (with_reducible refine vF ?_ ?_; · omega) | (with_reducible refine vI (fun _ => ?_) (fun _ => ?_)) | (simp (config := {maxSteps := 1000000}) (disch := (first | assumption | omega | (rw [hr_at]; assumption) | (rw [hr_at]; omega) | (repeat' first | assumption | decide | omega | refine FxB_nc ?_ ?_ | refine adO_B ?_ ?_ | refine rmO_B ?_ ?_))) only [f_X3_drawByLot, f_X7_isDraw, wg_0, wg_s, wK_none, wK_N, wK_C, wK_R, wQ_some, wQ_none, stR, mZ, mC, stI, ini, mL, gI, gA, sI, sA, bi, gF, pF, kF, kT, kL, c2, mT, mR, f4, tsw, lsw, tgt, inR, Nat.reduceLT, Nat.reduceLeDiff, Nat.reduceEqDiff, Nat.reduceAdd, Nat.reduceSub, ↓reduceIte, Bool.false_eq_true, List.map_cons, List.map_nil, List.length_cons, List.length_nil, List.replicate, List.cons_append, List.nil_append, List.getElem?_cons_zero, List.getElem?_cons_succ, List.set, List.take_succ_cons, List.take_zero, List.drop_succ_cons, List.drop_zero, List.reverse_cons, List.reverse_nil, Int.reduceLE, Int.reduceLT, Int.reduceNeg, Int.reduceToNat, true_and, and_true, and_self, beq_iff_eq, Bool.and_eq_true, Bool.or_eq_true, or_false, false_or, or_true, true_or, and_false, false_and, hu_ho, ho_at, oc_at, oc_nc, oc_oc, adO_nc, rmO_nc, not_false_eq_true, Int.reduceEq, Int.pow_zero, Int.reducePow, Int.reduceMul, Int.reduceAdd, Int.reduceDiv, Int.reduceMod, Int.zero_add, Int.add_zero, Int.mul_one, Int.cast_ofNat_Int])
