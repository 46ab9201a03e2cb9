/-! THE CLASS: facts of a ticket -/
set_option maxHeartbeats 4000000 in
set_option maxRecDepth 100000 in
theorem fb_tb {O : Of} {t : Int} (h : 0 ≤ O 3 t) (j : Nat) : fb O t j = (((O 3 t).toNat.testBit j).toNat : Int) := by
  unfold fb
  rw [Nat.toNat_testBit]
  push_cast
  rw [Int.toNat_of_nonneg h]
set_option maxHeartbeats 4000000 in
set_option maxRecDepth 100000 in
theorem ad_val {O : Of} {t : Int} {i : Nat} (hs : 0 ≤ O 3 t ∧ O 3 t < 16384) (hi : i < 14) : O 3 t + (1 - fb O t i) * 2 ^ i = (((O 3 t).toNat ||| 2 ^ i : Nat) : Int) := by
  have e1 := or_bit hs hi
  obtain ⟨a, ha⟩ : ∃ a : Nat, O 3 t = a := ⟨(O 3 t).toNat, by omega⟩
  have e2 := bO a (2 ^ i) (by omega) (by have := p2b hi; omega)
  rw [p2c, ← ha, e1] at e2
  unfold fb
  rw [e2, ha]
  rfl
set_option maxHeartbeats 4000000 in
set_option maxRecDepth 100000 in
theorem fb_ad {O : Of} {t s : Int} {i j : Nat} (hB : FxB O) (hs : 0 ≤ s ∧ s < 600) (hi : i < 14) : fb (adO O t i) s j = if s = t ∧ j = i then 1 else fb O s j := by
  have h := hB s hs.1 hs.2
  by_cases e : s = t
  · subst e
    have hv : adO O s i 3 s = (((O 3 s).toNat ||| 2 ^ i : Nat) : Int) := by
      unfold adO
      rw [oc_at, up_eq rfl]
      exact ad_val h hi
    rw [fb_tb (by rw [hv]; omega), fb_tb h.1, hv]
    rw [show ((((O 3 s).toNat ||| 2 ^ i : Nat) : Int)).toNat = (O 3 s).toNat ||| 2 ^ i from rfl, Nat.testBit_or, Nat.testBit_two_pow]
    by_cases hj : j = i
    · subst hj
      simp
    · have hj2 : ¬ i = j := fun q => hj q.symm
      simp [hj, hj2]
  · rw [if_neg (fun q => e q.1)]
    unfold fb adO
    rw [oc_at, up_ne e]
set_option maxHeartbeats 4000000 in
set_option maxRecDepth 100000 in
theorem rm_tb {a i : Nat} (h : a / 2 ^ i % 2 = 1) : (a - 2 ^ i) ||| 2 ^ i = a ∧ (a - 2 ^ i).testBit i = false ∧ 2 ^ i ≤ a := by
  have hp : 0 < 2 ^ i := Nat.two_pow_pos i
  have h1 : 1 ≤ a / 2 ^ i := by
    rcases Nat.eq_zero_or_pos (a / 2 ^ i) with q | q
    · rw [q] at h; simp at h
    · exact q
  have hle : 2 ^ i ≤ a := by
    have := (Nat.le_div_iff_mul_le hp).1 h1
    omega
  have hd : (a - 2 ^ i) / 2 ^ i = a / 2 ^ i - 1 := by
    have := Nat.sub_mul_div a (2 ^ i) 1
    rw [Nat.mul_one] at this
    exact this
  have h0 : (a - 2 ^ i) / 2 ^ i % 2 = 0 := by rw [hd]; omega
  refine ⟨by rw [or_tb h0]; omega, ?_, hle⟩
  have ht := Nat.toNat_testBit (a - 2 ^ i) i
  rw [h0] at ht
  cases q : (a - 2 ^ i).testBit i
  · rfl
  · rw [q] at ht; simp at ht
set_option maxHeartbeats 4000000 in
set_option maxRecDepth 100000 in
theorem fb_rm {O : Of} {t s : Int} {i j : Nat} (hB : FxB O) (hs : 0 ≤ s ∧ s < 600) : fb (rmO O t i) s j = if s = t ∧ j = i then 0 else fb O s j := by
  have h := hB s hs.1 hs.2
  by_cases e : s = t
  · subst e
    obtain ⟨a, ha⟩ : ∃ a : Nat, O 3 s = a := ⟨(O 3 s).toNat, by omega⟩
    rcases fb_01 O s i with g | g
    · have hv : rmO O s i = O := by
        unfold rmO
        rw [g, Int.zero_mul, Int.sub_zero, up_id, oc_id]
      rw [hv]
      by_cases hj : j = i
      · subst hj; rw [if_pos ⟨rfl, rfl⟩]; exact g
      · rw [if_neg (fun q => hj q.2)]
    · have hg : a / 2 ^ i % 2 = 1 := by
        unfold fb at g
        rw [ha, ← p2c] at g
        omega
      obtain ⟨r1, r2, r3⟩ := rm_tb hg
      have hv : rmO O s i 3 s = ((a - 2 ^ i : Nat) : Int) := by
        unfold rmO
        rw [oc_at, up_eq rfl, g, Int.one_mul, ha, ← p2c]
        omega
      rw [fb_tb (by rw [hv]; omega), fb_tb h.1, hv, ha]
      rw [show (((a - 2 ^ i : Nat) : Int)).toNat = a - 2 ^ i from rfl, show ((a : Int)).toNat = a from rfl]
      by_cases hj : j = i
      · subst hj
        rw [r2, if_pos ⟨rfl, rfl⟩]
        rfl
      · rw [if_neg (fun q => hj q.2)]
        have e2 : a.testBit j = ((a - 2 ^ i) ||| 2 ^ i).testBit j := by rw [r1]
        rw [Nat.testBit_or, Nat.testBit_two_pow] at e2
        have hj2 : ¬ i = j := fun q => hj q.symm
        rw [e2]
        simp [hj2]
  · rw [if_neg (fun q => e q.1)]
    unfold fb rmO
    rw [oc_at, up_ne e]
set_option maxHeartbeats 4000000 in
set_option maxRecDepth 100000 in
theorem c_has {S : Hp} {k : Nat} {O : Of} {t f : Int} {i : Nat} (hf : f = 2 ^ i) (hi : i < 14) (hB : FxB O) (ht : 0 ≤ t ∧ t < 600) (Q : Option MV → Hp → Prop) : Wc 44 [.inr (k, 2), .inl t, .inl f] (ho S k O) Q = Q (some (.inl (fb O t i))) (ho S k O) := by
  refine Wc_eq ?_ Q
  unfold Wc
  have h := hB t ht.1 ht.2
  have hp := p2I hi
  have e := and_bit h hi
  rw [← hf] at e hp
  have e2 : fb O t i = O 3 t / 2 ^ i % 2 := rfl
  rw [hf, ← e2, ← hf] at e
  rcases fb_01 O t i with g | g
  · rw [g, Int.zero_mul] at e
    rw [g]
    refine vg_sound (fun _ _ => false) (fun m => m == 44) 40 _ _ _ _ _ _ ?_
    repeat' first | (with_reducible refine vT ?_ ?_; · omega) | (with_reducible refine vF ?_ ?_; · omega) | (with_reducible refine vI (fun _ => ?_) (fun _ => ?_)) | (simp (config := {maxSteps := 1000000}) (disch := (first | assumption | omega | (rw [hr_at]; assumption) | (rw [hr_at]; omega) | (repeat' first | assumption | decide | omega | refine FxB_nc ?_ ?_ | refine adO_B ?_ ?_ | refine rmO_B ?_ ?_))) only [f_X5_has, wg_0, wg_s, wK_none, wK_N, wK_C, wK_R, wQ_some, wQ_none, stR, mZ, mC, stI, ini, mL, gI, gA, sI, sA, bi, gF, pF, kF, kT, kL, c2, mT, mR, f4, tsw, lsw, tgt, inR, Nat.reduceLT, Nat.reduceLeDiff, Nat.reduceEqDiff, Nat.reduceAdd, Nat.reduceSub, ↓reduceIte, Bool.false_eq_true, List.map_cons, List.map_nil, List.length_cons, List.length_nil, List.replicate, List.cons_append, List.nil_append, List.getElem?_cons_zero, List.getElem?_cons_succ, List.set, List.take_succ_cons, List.take_zero, List.drop_succ_cons, List.drop_zero, List.reverse_cons, List.reverse_nil, Int.reduceLE, Int.reduceLT, Int.reduceNeg, Int.reduceToNat, true_and, and_true, and_self, beq_iff_eq, Bool.and_eq_true, Bool.or_eq_true, or_false, false_or, or_true, true_or, and_false, false_and, hu_ho, ho_at, oc_at, oc_nc, oc_oc, adO_nc, rmO_nc, not_false_eq_true, Int.reduceEq, Int.pow_zero, Int.reducePow, Int.reduceMul, Int.reduceAdd, Int.reduceDiv, Int.reduceMod, Int.zero_add, Int.add_zero, Int.mul_one, Int.cast_ofNat_Int, e])
  · rw [g, Int.one_mul] at e
    rw [g]
    refine vg_sound (fun _ _ => false) (fun m => m == 44) 40 _ _ _ _ _ _ ?_
    repeat' first | (with_reducible refine vT ?_ ?_; · omega) | (with_reducible refine vF ?_ ?_; · omega) | (with_reducible refine vI (fun _ => ?_) (fun _ => ?_)) | (simp (config := {maxSteps := 1000000}) (disch := (first | assumption | omega | (rw [hr_at]; assumption) | (rw [hr_at]; omega) | (repeat' first | assumption | decide | omega | refine FxB_nc ?_ ?_ | refine adO_B ?_ ?_ | refine rmO_B ?_ ?_))) only [f_X5_has, wg_0, wg_s, wK_none, wK_N, wK_C, wK_R, wQ_some, wQ_none, stR, mZ, mC, stI, ini, mL, gI, gA, sI, sA, bi, gF, pF, kF, kT, kL, c2, mT, mR, f4, tsw, lsw, tgt, inR, Nat.reduceLT, Nat.reduceLeDiff, Nat.reduceEqDiff, Nat.reduceAdd, Nat.reduceSub, ↓reduceIte, Bool.false_eq_true, List.map_cons, List.map_nil, List.length_cons, List.length_nil, List.replicate, List.cons_append, List.nil_append, List.getElem?_cons_zero, List.getElem?_cons_succ, List.set, List.take_succ_cons, List.take_zero, List.drop_succ_cons, List.drop_zero, List.reverse_cons, List.reverse_nil, Int.reduceLE, Int.reduceLT, Int.reduceNeg, Int.reduceToNat, true_and, and_true, and_self, beq_iff_eq, Bool.and_eq_true, Bool.or_eq_true, or_false, false_or, or_true, true_or, and_false, false_and, hu_ho, ho_at, oc_at, oc_nc, oc_oc, adO_nc, rmO_nc, not_false_eq_true, Int.reduceEq, Int.pow_zero, Int.reducePow, Int.reduceMul, Int.reduceAdd, Int.reduceDiv, Int.reduceMod, Int.zero_add, Int.add_zero, Int.mul_one, Int.cast_ofNat_Int, e])
set_option maxHeartbeats 4000000 in
set_option maxRecDepth 100000 in
theorem c_add {S : Hp} {k : Nat} {O : Of} {t f : Int} {i : Nat} (hf : f = 2 ^ i) (hi : i < 14) (hB : FxB O) (ht : 0 ≤ t ∧ t < 600) (Q : Option MV → Hp → Prop) : Wc 45 [.inr (k, 2), .inl t, .inl f] (ho S k O) Q = Q none (ho S k (adO O t i)) := by
  refine Wc_eq ?_ Q
  unfold Wc
  have h := hB t ht.1 ht.2
  have e := or_bit h hi
  rw [← hf] at e
  have e2 : adO O t i = oc O 3 (up (O 3) t (O 3 t + (1 - O 3 t / f % 2) * f)) := by unfold adO fb; rw [hf]
  rw [e2]
  refine vg_sound (fun _ _ => false) (fun m => m == 45) 40 _ _ _ _ _ _ ?_
  repeat' first | (with_reducible refine vT ?_ ?_; · omega) | (with_reducible refine vF ?_ ?_; · omega) | (with_reducible refine vI (fun _ => ?_) (fun _ => ?_)) | (simp (config := {maxSteps := 1000000}) (disch := (first | assumption | omega | (rw [hr_at]; assumption) | (rw [hr_at]; omega) | (repeat' first | assumption | decide | omega | refine FxB_nc ?_ ?_ | refine adO_B ?_ ?_ | refine rmO_B ?_ ?_))) only [f_X5_add, wg_0, wg_s, wK_none, wK_N, wK_C, wK_R, wQ_some, wQ_none, stR, mZ, mC, stI, ini, mL, gI, gA, sI, sA, bi, gF, pF, kF, kT, kL, c2, mT, mR, f4, tsw, lsw, tgt, inR, Nat.reduceLT, Nat.reduceLeDiff, Nat.reduceEqDiff, Nat.reduceAdd, Nat.reduceSub, ↓reduceIte, Bool.false_eq_true, List.map_cons, List.map_nil, List.length_cons, List.length_nil, List.replicate, List.cons_append, List.nil_append, List.getElem?_cons_zero, List.getElem?_cons_succ, List.set, List.take_succ_cons, List.take_zero, List.drop_succ_cons, List.drop_zero, List.reverse_cons, List.reverse_nil, Int.reduceLE, Int.reduceLT, Int.reduceNeg, Int.reduceToNat, true_and, and_true, and_self, beq_iff_eq, Bool.and_eq_true, Bool.or_eq_true, or_false, false_or, or_true, true_or, and_false, false_and, hu_ho, ho_at, oc_at, oc_nc, oc_oc, adO_nc, rmO_nc, not_false_eq_true, Int.reduceEq, Int.pow_zero, Int.reducePow, Int.reduceMul, Int.reduceAdd, Int.reduceDiv, Int.reduceMod, Int.zero_add, Int.add_zero, Int.mul_one, Int.cast_ofNat_Int, e])
set_option maxHeartbeats 4000000 in
set_option maxRecDepth 100000 in
theorem pw3 {w : Int} (hw : 0 ≤ w ∧ w < 3) : 1 ≤ (2 : Int) ^ w.toNat ∧ (2 : Int) ^ w.toNat ≤ 4 := by
  rcases (show w = 0 ∨ w = 1 ∨ w = 2 by omega) with rfl | rfl | rfl <;> decide
set_option maxHeartbeats 4000000 in
set_option maxRecDepth 100000 in
theorem pws {w : Int} (n : Nat) (hw : 0 ≤ w ∧ w < 3) : (2 : Int) ^ n * 2 ^ w.toNat = 2 ^ ((n : Int) + w).toNat := by
  rw [← Int.pow_add]
  congr 1
  omega
set_option maxHeartbeats 4000000 in
set_option maxRecDepth 100000 in
theorem and_lit {a n m : Nat} (hn : n < 2147483648) (ha : a < 2147483648) (e : a &&& n = m) : bAnd (a : Int) (n : Int) = (m : Int) := by
  rw [bA a n ha, e]
set_option maxHeartbeats 4000000 in
set_option maxRecDepth 100000 in
theorem bx2 : bXor 2 (-1) = -3 := by decide +kernel
set_option maxHeartbeats 4000000 in
set_option maxRecDepth 100000 in
theorem bx4 : bXor 4 (-1) = -5 := by decide +kernel
set_option maxHeartbeats 4000000 in
set_option maxRecDepth 100000 in
theorem not_bit {a i n : Nat} (h : a < 16384) (hn : n = 2 ^ 14 - 1 - 2 ^ i) (hi : i < 14) : (a &&& n) + a / 2 ^ i % 2 * 2 ^ i = a := by
  have h1 : a &&& n = a - a / 2 ^ i % 2 * 2 ^ i := by
    apply Nat.eq_of_testBit_eq
    intro j
    have ht := Nat.toNat_testBit a i
    have hnj : n.testBit j = (decide (j < 14) && !decide (i = j)) := by
      rw [hn]
      have e : 2 ^ 14 - 1 - 2 ^ i = 2 ^ 14 - (2 ^ i + 1) := by omega
      rw [e, Nat.testBit_two_pow_sub_succ (Nat.pow_lt_pow_right (by decide) hi), Nat.testBit_two_pow]
    have haj : 14 ≤ j → a.testBit j = false := fun q => Nat.testBit_lt_two_pow (Nat.lt_of_lt_of_le h (by
      have := Nat.pow_le_pow_right (n := 2) (by decide) q
      omega))
    rw [Nat.testBit_and, hnj]
    cases q : a.testBit i
    · rw [q] at ht
      rw [← ht]
      simp only [Bool.toNat_false, Nat.zero_mul, Nat.sub_zero]
      by_cases hj : i = j
      · subst hj; rw [q]; simp
      · by_cases h14 : j < 14
        · simp [hj, h14]
        · rw [haj (by omega)]; simp
    · rw [q] at ht
      have h0 : a / 2 ^ i % 2 = 1 := ht.symm
      obtain ⟨r1, r2, r3⟩ := rm_tb h0
      rw [h0, Nat.one_mul]
      by_cases hj : i = j
      · subst hj; rw [r2]; simp
      · have e2 : a.testBit j = ((a - 2 ^ i) ||| 2 ^ i).testBit j := by rw [r1]
        rw [Nat.testBit_or, Nat.testBit_two_pow] at e2
        by_cases h14 : j < 14
        · rw [e2]; simp [hj, h14]
        · have := haj (by omega)
          rw [e2] at this
          simp [hj] at this
          simp [h14, this]
  have h2 : a / 2 ^ i % 2 * 2 ^ i ≤ a := by
    rcases (show a / 2 ^ i % 2 = 0 ∨ a / 2 ^ i % 2 = 1 by omega) with g | g
    · rw [g]; omega
    · rw [g]; have := (rm_tb g).2.2; omega
  omega
set_option maxHeartbeats 4000000 in
set_option maxRecDepth 100000 in
theorem and_neg {z : Int} (hz : 0 ≤ z ∧ z < 16384) (m n : Nat) (hm : m < 16384) (hn : n = 16383 - m) : bAnd z (-(m : Int) - 1) = ((z.toNat &&& n : Nat) : Int) := by
  obtain ⟨a, rfl⟩ : ∃ a : Nat, z = a := ⟨z.toNat, by omega⟩
  unfold bAnd
  have e : Int32.ofInt (-(m : Int) - 1) = ~~~ (nI m) := by
    apply Int32.toBitVec_inj.1
    show BitVec.ofInt 32 (-(m : Int) - 1) = ~~~ (BitVec.ofNat 32 m)
    apply BitVec.eq_of_toInt_eq
    rw [BitVec.toInt_not, BitVec.toInt_ofInt, BitVec.toNat_ofNat]
    rw [Nat.mod_eq_of_lt (by omega)]
    have e9 : ((2 : Int) ^ 32) - 1 - (m : Int) = (-(m : Int) - 1) + ((2 ^ 32 : Nat) : Int) := by omega
    first
      | (rw [e9, Int.add_bmod_right]; done)
      | (rw [e9, Int.bmod_add_cancel]; done)
      | (rw [e9]; simp; done)
  rw [oi_nI, e]
  have e3 : nI a &&& ~~~ nI m = nI (a &&& n) := by
    apply Int32.toBitVec_inj.1
    show BitVec.ofNat 32 a &&& ~~~ BitVec.ofNat 32 m = BitVec.ofNat 32 (a &&& n)
    apply BitVec.eq_of_getLsbD_eq
    intro i hi
    have hn2 : n = 2 ^ 14 - (m + 1) := by omega
    rw [BitVec.getLsbD_and, BitVec.getLsbD_not, BitVec.getLsbD_ofNat, BitVec.getLsbD_ofNat, BitVec.getLsbD_ofNat, Nat.testBit_and, hn2, Nat.testBit_two_pow_sub_succ (by omega)]
    by_cases h14 : i < 14
    · simp [h14, hi]
    · have ha : a.testBit i = false := Nat.testBit_lt_two_pow (Nat.lt_of_lt_of_le (show a < 2 ^ 14 by omega) (Nat.pow_le_pow_right (by decide) (by omega)))
      simp [ha]
  rw [e3, nI_toInt (Nat.lt_of_le_of_lt Nat.and_le_left (by omega))]
  rfl
set_option maxHeartbeats 4000000 in
set_option maxRecDepth 100000 in
theorem not_fact {O : Of} {t : Int} {i m : Nat} (hs : 0 ≤ O 3 t ∧ O 3 t < 16384) (hi : i < 14) (hm : m = 2 ^ i) : bAnd (O 3 t) (-(m : Int) - 1) = O 3 t - fb O t i * 2 ^ i := by
  have hp := p2b hi
  have e := and_neg hs m (16383 - m) (by omega) rfl
  have e2 := not_bit (a := (O 3 t).toNat) (i := i) (n := 16383 - m) (by omega) (by omega) hi
  rw [e]
  unfold fb
  have h3 : ((((O 3 t).toNat &&& (16383 - m)) + (O 3 t).toNat / 2 ^ i % 2 * 2 ^ i : Nat) : Int) = (((O 3 t).toNat : Nat) : Int) := by rw [e2]
  push_cast at h3
  rw [Int.toNat_of_nonneg hs.1] at h3
  omega
set_option maxHeartbeats 4000000 in
set_option maxRecDepth 100000 in
theorem c_remove2 {S : Hp} {k : Nat} {O : Of} {t : Int} (hB : FxB O) (ht : 0 ≤ t ∧ t < 600) (Q : Option MV → Hp → Prop) : Wc 46 [.inr (k, 2), .inl t, .inl 2] (ho S k O) Q = Q none (ho S k (rmO O t 1)) := by
  refine Wc_eq ?_ Q
  unfold Wc
  have e := not_fact (i := 1) (m := 2) (hB t ht.1 ht.2) (by decide) rfl
  have e0 : (-((2 : Nat) : Int) - 1) = -3 := rfl
  rw [e0] at e
  unfold rmO
  refine vg_sound (fun _ _ => false) (fun m => m == 46) 40 _ _ _ _ _ _ ?_
  repeat' first | (with_reducible refine vT ?_ ?_; · omega) | (with_reducible refine vF ?_ ?_; · omega) | (with_reducible refine vI (fun _ => ?_) (fun _ => ?_)) | (simp (config := {maxSteps := 1000000}) (disch := (first | assumption | omega | (rw [hr_at]; assumption) | (rw [hr_at]; omega) | (repeat' first | assumption | decide | omega | refine FxB_nc ?_ ?_ | refine adO_B ?_ ?_ | refine rmO_B ?_ ?_))) only [f_X5_remove, wg_0, wg_s, wK_none, wK_N, wK_C, wK_R, wQ_some, wQ_none, stR, mZ, mC, stI, ini, mL, gI, gA, sI, sA, bi, gF, pF, kF, kT, kL, c2, mT, mR, f4, tsw, lsw, tgt, inR, Nat.reduceLT, Nat.reduceLeDiff, Nat.reduceEqDiff, Nat.reduceAdd, Nat.reduceSub, ↓reduceIte, Bool.false_eq_true, List.map_cons, List.map_nil, List.length_cons, List.length_nil, List.replicate, List.cons_append, List.nil_append, List.getElem?_cons_zero, List.getElem?_cons_succ, List.set, List.take_succ_cons, List.take_zero, List.drop_succ_cons, List.drop_zero, List.reverse_cons, List.reverse_nil, Int.reduceLE, Int.reduceLT, Int.reduceNeg, Int.reduceToNat, true_and, and_true, and_self, beq_iff_eq, Bool.and_eq_true, Bool.or_eq_true, or_false, false_or, or_true, true_or, and_false, false_and, hu_ho, ho_at, oc_at, oc_nc, oc_oc, adO_nc, rmO_nc, not_false_eq_true, Int.reduceEq, Int.pow_zero, Int.reducePow, Int.reduceMul, Int.reduceAdd, Int.reduceDiv, Int.reduceMod, Int.zero_add, Int.add_zero, Int.mul_one, Int.cast_ofNat_Int, bx2, e])
set_option maxHeartbeats 4000000 in
set_option maxRecDepth 100000 in
theorem c_remove4 {S : Hp} {k : Nat} {O : Of} {t : Int} (hB : FxB O) (ht : 0 ≤ t ∧ t < 600) (Q : Option MV → Hp → Prop) : Wc 46 [.inr (k, 2), .inl t, .inl 4] (ho S k O) Q = Q none (ho S k (rmO O t 2)) := by
  refine Wc_eq ?_ Q
  unfold Wc
  have e := not_fact (i := 2) (m := 4) (hB t ht.1 ht.2) (by decide) rfl
  have e0 : (-((4 : Nat) : Int) - 1) = -5 := rfl
  rw [e0] at e
  unfold rmO
  refine vg_sound (fun _ _ => false) (fun m => m == 46) 40 _ _ _ _ _ _ ?_
  repeat' first | (with_reducible refine vT ?_ ?_; · omega) | (with_reducible refine vF ?_ ?_; · omega) | (with_reducible refine vI (fun _ => ?_) (fun _ => ?_)) | (simp (config := {maxSteps := 1000000}) (disch := (first | assumption | omega | (rw [hr_at]; assumption) | (rw [hr_at]; omega) | (repeat' first | assumption | decide | omega | refine FxB_nc ?_ ?_ | refine adO_B ?_ ?_ | refine rmO_B ?_ ?_))) only [f_X5_remove, wg_0, wg_s, wK_none, wK_N, wK_C, wK_R, wQ_some, wQ_none, stR, mZ, mC, stI, ini, mL, gI, gA, sI, sA, bi, gF, pF, kF, kT, kL, c2, mT, mR, f4, tsw, lsw, tgt, inR, Nat.reduceLT, Nat.reduceLeDiff, Nat.reduceEqDiff, Nat.reduceAdd, Nat.reduceSub, ↓reduceIte, Bool.false_eq_true, List.map_cons, List.map_nil, List.length_cons, List.length_nil, List.replicate, List.cons_append, List.nil_append, List.getElem?_cons_zero, List.getElem?_cons_succ, List.set, List.take_succ_cons, List.take_zero, List.drop_succ_cons, List.drop_zero, List.reverse_cons, List.reverse_nil, Int.reduceLE, Int.reduceLT, Int.reduceNeg, Int.reduceToNat, true_and, and_true, and_self, beq_iff_eq, Bool.and_eq_true, Bool.or_eq_true, or_false, false_or, or_true, true_or, and_false, false_and, hu_ho, ho_at, oc_at, oc_nc, oc_oc, adO_nc, rmO_nc, not_false_eq_true, Int.reduceEq, Int.pow_zero, Int.reducePow, Int.reduceMul, Int.reduceAdd, Int.reduceDiv, Int.reduceMod, Int.zero_add, Int.add_zero, Int.mul_one, Int.cast_ofNat_Int, bx4, e])
set_option maxHeartbeats 4000000 in
set_option maxRecDepth 100000 in
theorem and_7n {a n : Nat} : a &&& (7 * 2 ^ n) = a / 2 ^ n % 8 * 2 ^ n := by
  rw [← Nat.shiftLeft_eq, ← Nat.shiftLeft_eq]
  apply Nat.eq_of_testBit_eq
  intro j
  rw [Nat.testBit_and, Nat.testBit_shiftLeft, Nat.testBit_shiftLeft, show (7 : Nat) = 2 ^ 3 - 1 from rfl, Nat.testBit_two_pow_sub_one, show (8 : Nat) = 2 ^ 3 from rfl, Nat.testBit_mod_two_pow, Nat.testBit_div_two_pow]
  by_cases h : n ≤ j
  · rw [show j - n + n = j from by omega]
    cases a.testBit j <;> simp [h]
  · simp [h]
set_option maxHeartbeats 4000000 in
set_option maxRecDepth 100000 in
theorem and_7 {z : Int} {n : Nat} (hz : 0 ≤ z ∧ z < 16384) : bAnd z (7 * 2 ^ n) = z / 2 ^ n % 8 * 2 ^ n := by
  obtain ⟨a, rfl⟩ : ∃ a : Nat, z = a := ⟨z.toNat, by omega⟩
  have e := bA a (7 * 2 ^ n) (by omega)
  rw [and_7n] at e
  push_cast at e
  exact e
set_option maxHeartbeats 4000000 in
set_option maxRecDepth 100000 in
theorem c_windowBits {S : Hp} {k : Nat} {O : Of} {t f : Int} {n : Nat} (hf : f = 2 ^ n) (hn : n < 14) (hB : FxB O) (ht : 0 ≤ t ∧ t < 600) (Q : Option MV → Hp → Prop) : Wc 48 [.inr (k, 2), .inl t, .inl f] (ho S k O) Q = Q (some (.inl (O 3 t / 2 ^ n % 8 * 2 ^ n))) (ho S k O) := by
  refine Wc_eq ?_ Q
  unfold Wc
  have e := and_7 (n := n) (hB t ht.1 ht.2)
  rw [← hf] at e ⊢
  refine vg_sound (fun _ _ => false) (fun m => m == 48) 40 _ _ _ _ _ _ ?_
  repeat' first | (with_reducible refine vT ?_ ?_; · omega) | (with_reducible refine vF ?_ ?_; · omega) | (with_reducible refine vI (fun _ => ?_) (fun _ => ?_)) | (simp (config := {maxSteps := 1000000}) (disch := (first | assumption | omega | (rw [hr_at]; assumption) | (rw [hr_at]; omega) | (repeat' first | assumption | decide | omega | refine FxB_nc ?_ ?_ | refine adO_B ?_ ?_ | refine rmO_B ?_ ?_))) only [f_X5_windowBits, wg_0, wg_s, wK_none, wK_N, wK_C, wK_R, wQ_some, wQ_none, stR, mZ, mC, stI, ini, mL, gI, gA, sI, sA, bi, gF, pF, kF, kT, kL, c2, mT, mR, f4, tsw, lsw, tgt, inR, Nat.reduceLT, Nat.reduceLeDiff, Nat.reduceEqDiff, Nat.reduceAdd, Nat.reduceSub, ↓reduceIte, Bool.false_eq_true, List.map_cons, List.map_nil, List.length_cons, List.length_nil, List.replicate, List.cons_append, List.nil_append, List.getElem?_cons_zero, List.getElem?_cons_succ, List.set, List.take_succ_cons, List.take_zero, List.drop_succ_cons, List.drop_zero, List.reverse_cons, List.reverse_nil, Int.reduceLE, Int.reduceLT, Int.reduceNeg, Int.reduceToNat, true_and, and_true, and_self, beq_iff_eq, Bool.and_eq_true, Bool.or_eq_true, or_false, false_or, or_true, true_or, and_false, false_and, hu_ho, ho_at, oc_at, oc_nc, oc_oc, adO_nc, rmO_nc, not_false_eq_true, Int.reduceEq, Int.pow_zero, Int.reducePow, Int.reduceMul, Int.reduceAdd, Int.reduceDiv, Int.reduceMod, Int.zero_add, Int.add_zero, Int.mul_one, Int.cast_ofNat_Int, e])
set_option maxHeartbeats 4000000 in
set_option maxRecDepth 100000 in
theorem c_classOf {S : Hp} {k : Nat} {O : Of} {t : Int} (hB : FxB O) (ht : 0 ≤ t ∧ t < 600) (Q : Option MV → Hp → Prop) : Wc 47 [.inr (k, 2), .inl t] (ho S k O) Q = Q (some (.inl (O 3 t / 8 % 4))) (ho S k O) := by
  refine Wc_eq ?_ Q
  unfold Wc
  have h := hB t ht.1 ht.2
  obtain ⟨a, ha⟩ : ∃ a : Nat, O 3 t / 8 = a := ⟨(O 3 t / 8).toNat, by omega⟩
  have e := bA a 3 (by omega)
  rw [show (3 : Nat) = 2 ^ 2 - 1 from rfl, Nat.and_two_pow_sub_one_eq_mod] at e
  have e2 : bAnd (a : Int) 3 = ((a % 2 ^ 2 : Nat) : Int) := e
  rw [← ha] at e2
  have e3 : ((a % 2 ^ 2 : Nat) : Int) = O 3 t / 8 % 4 := by rw [ha]; omega
  rw [e3] at e2
  refine vg_sound (fun _ _ => false) (fun m => m == 47) 40 _ _ _ _ _ _ ?_
  repeat' first | (with_reducible refine vT ?_ ?_; · omega) | (with_reducible refine vF ?_ ?_; · omega) | (with_reducible refine vI (fun _ => ?_) (fun _ => ?_)) | (simp (config := {maxSteps := 1000000}) (disch := (first | assumption | omega | (rw [hr_at]; assumption) | (rw [hr_at]; omega) | (repeat' first | assumption | decide | omega | refine FxB_nc ?_ ?_ | refine adO_B ?_ ?_ | refine rmO_B ?_ ?_))) only [f_X5_classOfTicket, wg_0, wg_s, wK_none, wK_N, wK_C, wK_R, wQ_some, wQ_none, stR, mZ, mC, stI, ini, mL, gI, gA, sI, sA, bi, gF, pF, kF, kT, kL, c2, mT, mR, f4, tsw, lsw, tgt, inR, Nat.reduceLT, Nat.reduceLeDiff, Nat.reduceEqDiff, Nat.reduceAdd, Nat.reduceSub, ↓reduceIte, Bool.false_eq_true, List.map_cons, List.map_nil, List.length_cons, List.length_nil, List.replicate, List.cons_append, List.nil_append, List.getElem?_cons_zero, List.getElem?_cons_succ, List.set, List.take_succ_cons, List.take_zero, List.drop_succ_cons, List.drop_zero, List.reverse_cons, List.reverse_nil, Int.reduceLE, Int.reduceLT, Int.reduceNeg, Int.reduceToNat, true_and, and_true, and_self, beq_iff_eq, Bool.and_eq_true, Bool.or_eq_true, or_false, false_or, or_true, true_or, and_false, false_and, hu_ho, ho_at, oc_at, oc_nc, oc_oc, adO_nc, rmO_nc, not_false_eq_true, Int.reduceEq, Int.pow_zero, Int.reducePow, Int.reduceMul, Int.reduceAdd, Int.reduceDiv, Int.reduceMod, Int.zero_add, Int.add_zero, Int.mul_one, Int.cast_ofNat_Int, e2])
