/-! THE CLASS: facts by name; prizes, messages, windows -/
set_option maxHeartbeats 4000000 in
set_option maxRecDepth 100000 in
theorem c_has1 {S : Hp} {k : Nat} {O : Of} {t : Int} (hB : FxB O) (ht : 0 ≤ t ∧ t < 600) (Q : Option MV → Hp → Prop) : Wc 44 [.inr (k, 2), .inl t, .inl 1] (ho S k O) Q = Q (some (.inl (fb O t 0))) (ho S k O) := c_has (i := 0) rfl (by decide) hB ht Q
set_option maxHeartbeats 4000000 in
set_option maxRecDepth 100000 in
theorem c_add1 {S : Hp} {k : Nat} {O : Of} {t : Int} (hB : FxB O) (ht : 0 ≤ t ∧ t < 600) (Q : Option MV → Hp → Prop) : Wc 45 [.inr (k, 2), .inl t, .inl 1] (ho S k O) Q = Q none (ho S k (adO O t 0)) := c_add (i := 0) rfl (by decide) hB ht Q
set_option maxHeartbeats 4000000 in
set_option maxRecDepth 100000 in
theorem c_has2 {S : Hp} {k : Nat} {O : Of} {t : Int} (hB : FxB O) (ht : 0 ≤ t ∧ t < 600) (Q : Option MV → Hp → Prop) : Wc 44 [.inr (k, 2), .inl t, .inl 2] (ho S k O) Q = Q (some (.inl (fb O t 1))) (ho S k O) := c_has (i := 1) rfl (by decide) hB ht Q
set_option maxHeartbeats 4000000 in
set_option maxRecDepth 100000 in
theorem c_add2 {S : Hp} {k : Nat} {O : Of} {t : Int} (hB : FxB O) (ht : 0 ≤ t ∧ t < 600) (Q : Option MV → Hp → Prop) : Wc 45 [.inr (k, 2), .inl t, .inl 2] (ho S k O) Q = Q none (ho S k (adO O t 1)) := c_add (i := 1) rfl (by decide) hB ht Q
set_option maxHeartbeats 4000000 in
set_option maxRecDepth 100000 in
theorem c_has4 {S : Hp} {k : Nat} {O : Of} {t : Int} (hB : FxB O) (ht : 0 ≤ t ∧ t < 600) (Q : Option MV → Hp → Prop) : Wc 44 [.inr (k, 2), .inl t, .inl 4] (ho S k O) Q = Q (some (.inl (fb O t 2))) (ho S k O) := c_has (i := 2) rfl (by decide) hB ht Q
set_option maxHeartbeats 4000000 in
set_option maxRecDepth 100000 in
theorem c_add4 {S : Hp} {k : Nat} {O : Of} {t : Int} (hB : FxB O) (ht : 0 ≤ t ∧ t < 600) (Q : Option MV → Hp → Prop) : Wc 45 [.inr (k, 2), .inl t, .inl 4] (ho S k O) Q = Q none (ho S k (adO O t 2)) := c_add (i := 2) rfl (by decide) hB ht Q
set_option maxHeartbeats 4000000 in
set_option maxRecDepth 100000 in
theorem c_hasM {S : Hp} {k : Nat} {O : Of} {t w : Int} (hw : 0 ≤ w ∧ w < 3) (hB : FxB O) (ht : 0 ≤ t ∧ t < 600) (Q : Option MV → Hp → Prop) : Wc 44 [.inr (k, 2), .inl t, .inl (32 * 2 ^ w.toNat)] (ho S k O) Q = Q (some (.inl (fb O t (5 + w).toNat))) (ho S k O) := c_has (i := (5 + w).toNat) (pws 5 hw) (by omega) hB ht Q
set_option maxHeartbeats 4000000 in
set_option maxRecDepth 100000 in
theorem c_addM {S : Hp} {k : Nat} {O : Of} {t w : Int} (hw : 0 ≤ w ∧ w < 3) (hB : FxB O) (ht : 0 ≤ t ∧ t < 600) (Q : Option MV → Hp → Prop) : Wc 45 [.inr (k, 2), .inl t, .inl (32 * 2 ^ w.toNat)] (ho S k O) Q = Q none (ho S k (adO O t (5 + w).toNat)) := c_add (i := (5 + w).toNat) (pws 5 hw) (by omega) hB ht Q
set_option maxHeartbeats 4000000 in
set_option maxRecDepth 100000 in
theorem c_wbM {S : Hp} {k : Nat} {O : Of} {t : Int} (hB : FxB O) (ht : 0 ≤ t ∧ t < 600) (Q : Option MV → Hp → Prop) : Wc 48 [.inr (k, 2), .inl t, .inl 32] (ho S k O) Q = Q (some (.inl (O 3 t / 32 % 8 * 32))) (ho S k O) := c_windowBits (n := 5) rfl (by decide) hB ht Q
set_option maxHeartbeats 4000000 in
set_option maxRecDepth 100000 in
theorem c_hasP {S : Hp} {k : Nat} {O : Of} {t w : Int} (hw : 0 ≤ w ∧ w < 3) (hB : FxB O) (ht : 0 ≤ t ∧ t < 600) (Q : Option MV → Hp → Prop) : Wc 44 [.inr (k, 2), .inl t, .inl (256 * 2 ^ w.toNat)] (ho S k O) Q = Q (some (.inl (fb O t (8 + w).toNat))) (ho S k O) := c_has (i := (8 + w).toNat) (pws 8 hw) (by omega) hB ht Q
set_option maxHeartbeats 4000000 in
set_option maxRecDepth 100000 in
theorem c_addP {S : Hp} {k : Nat} {O : Of} {t w : Int} (hw : 0 ≤ w ∧ w < 3) (hB : FxB O) (ht : 0 ≤ t ∧ t < 600) (Q : Option MV → Hp → Prop) : Wc 45 [.inr (k, 2), .inl t, .inl (256 * 2 ^ w.toNat)] (ho S k O) Q = Q none (ho S k (adO O t (8 + w).toNat)) := c_add (i := (8 + w).toNat) (pws 8 hw) (by omega) hB ht Q
set_option maxHeartbeats 4000000 in
set_option maxRecDepth 100000 in
theorem c_wbP {S : Hp} {k : Nat} {O : Of} {t : Int} (hB : FxB O) (ht : 0 ≤ t ∧ t < 600) (Q : Option MV → Hp → Prop) : Wc 48 [.inr (k, 2), .inl t, .inl 256] (ho S k O) Q = Q (some (.inl (O 3 t / 256 % 8 * 256))) (ho S k O) := c_windowBits (n := 8) rfl (by decide) hB ht Q
set_option maxHeartbeats 4000000 in
set_option maxRecDepth 100000 in
theorem c_hasC {S : Hp} {k : Nat} {O : Of} {t w : Int} (hw : 0 ≤ w ∧ w < 3) (hB : FxB O) (ht : 0 ≤ t ∧ t < 600) (Q : Option MV → Hp → Prop) : Wc 44 [.inr (k, 2), .inl t, .inl (2048 * 2 ^ w.toNat)] (ho S k O) Q = Q (some (.inl (fb O t (11 + w).toNat))) (ho S k O) := c_has (i := (11 + w).toNat) (pws 11 hw) (by omega) hB ht Q
set_option maxHeartbeats 4000000 in
set_option maxRecDepth 100000 in
theorem c_addC {S : Hp} {k : Nat} {O : Of} {t w : Int} (hw : 0 ≤ w ∧ w < 3) (hB : FxB O) (ht : 0 ≤ t ∧ t < 600) (Q : Option MV → Hp → Prop) : Wc 45 [.inr (k, 2), .inl t, .inl (2048 * 2 ^ w.toNat)] (ho S k O) Q = Q none (ho S k (adO O t (11 + w).toNat)) := c_add (i := (11 + w).toNat) (pws 11 hw) (by omega) hB ht Q
set_option maxHeartbeats 4000000 in
set_option maxRecDepth 100000 in
theorem c_wbC {S : Hp} {k : Nat} {O : Of} {t : Int} (hB : FxB O) (ht : 0 ≤ t ∧ t < 600) (Q : Option MV → Hp → Prop) : Wc 48 [.inr (k, 2), .inl t, .inl 2048] (ho S k O) Q = Q (some (.inl (O 3 t / 2048 % 8 * 2048))) (ho S k O) := c_windowBits (n := 11) rfl (by decide) hB ht Q
/- a prize -/
def WnB (O : Of) : Prop := ∀ d : Int, 0 ≤ d → d < 6 → (0 ≤ O 6 d ∧ O 6 d ≤ 100) ∧ ∀ c : Int, 1 ≤ c → c ≤ 3 → 0 ≤ O 8 (d * 3 + c - 1) ∧ O 8 (d * 3 + c - 1) ≤ 100
def prO (O : Of) (d c : Int) : Int := if c = 0 then 0 else if O 8 (d * 3 + c - 1) = 0 then 0 else O 6 d * 10 * shr c / 100 / O 8 (d * 3 + c - 1)
set_option maxHeartbeats 4000000 in
set_option maxRecDepth 100000 in
theorem sv_shr {c : Int} (h : 1 ≤ c ∧ c ≤ 3) : sv 39 c = shr c := by
  rcases (show c = 1 ∨ c = 2 ∨ c = 3 by omega) with rfl | rfl | rfl <;> rfl
set_option maxHeartbeats 4000000 in
set_option maxRecDepth 100000 in
theorem shr_b {c : Int} : 20 ≤ shr c ∧ shr c ≤ 40 := by
  unfold shr
  repeat' split
  all_goals omega
set_option maxHeartbeats 4000000 in
set_option maxRecDepth 100000 in
theorem c_prize {S : Hp} {k : Nat} {O : Of} {d c : Int} (hW : WnB O) (hd : 0 ≤ d ∧ d < 6) (hc : 0 ≤ c ∧ c ≤ 3) (Q : Option MV → Hp → Prop) : Wc 10 [.inr (k, 5), .inl d, .inl c] (ho S k O) Q = Q (some (.inl (prO O d c))) (ho S k O) := by
  refine Wc_eq ?_ Q
  unfold Wc
  unfold prO
  by_cases h : c = 0
  · rw [if_pos h]
    refine vg_sound (fun _ _ => false) (fun m => m == 10) 60 _ _ _ _ _ _ ?_
    repeat' first | (with_reducible refine vT ?_ ?_; · omega) | (with_reducible refine vF ?_ ?_; · omega) | (with_reducible refine vI (fun _ => ?_) (fun _ => ?_)) | (simp (config := {maxSteps := 1000000}) (disch := (first | assumption | omega | (rw [hr_at]; assumption) | (rw [hr_at]; omega) | (repeat' first | assumption | decide | omega | refine FxB_nc ?_ ?_ | refine adO_B ?_ ?_ | refine rmO_B ?_ ?_))) only [f_X1_prize, wg_0, wg_s, wK_none, wK_N, wK_C, wK_R, wQ_some, wQ_none, stR, mZ, mC, stI, ini, mL, gI, gA, sI, sA, bi, gF, pF, kF, kT, kL, c2, mT, mR, f4, tsw, lsw, tgt, inR, Nat.reduceLT, Nat.reduceLeDiff, Nat.reduceEqDiff, Nat.reduceAdd, Nat.reduceSub, ↓reduceIte, Bool.false_eq_true, List.map_cons, List.map_nil, List.length_cons, List.length_nil, List.replicate, List.cons_append, List.nil_append, List.getElem?_cons_zero, List.getElem?_cons_succ, List.set, List.take_succ_cons, List.take_zero, List.drop_succ_cons, List.drop_zero, List.reverse_cons, List.reverse_nil, Int.reduceLE, Int.reduceLT, Int.reduceNeg, Int.reduceToNat, true_and, and_true, and_self, beq_iff_eq, Bool.and_eq_true, Bool.or_eq_true, or_false, false_or, or_true, true_or, and_false, false_and, hu_ho, ho_at, oc_at, oc_nc, oc_oc, adO_nc, rmO_nc, not_false_eq_true, Int.reduceEq, Int.pow_zero, Int.reducePow, Int.reduceMul, Int.reduceAdd, Int.reduceDiv, Int.reduceMod, Int.zero_add, Int.add_zero, Int.mul_one, Int.cast_ofNat_Int])
  · rw [if_neg h]
    have hw := (hW d hd.1 hd.2)
    have hw2 := hw.2 c (by omega) hc.2
    have e := sv_shr (c := c) (by omega)
    have hb := shr_b (c := c)
    have h1 : 0 ≤ O 6 d * 10 * shr c ∧ O 6 d * 10 * shr c ≤ 40000 := by
      rcases (show c = 1 ∨ c = 2 ∨ c = 3 by omega) with rfl | rfl | rfl
      · rw [show shr 1 = 40 from rfl]; omega
      · rw [show shr 2 = 30 from rfl]; omega
      · rw [show shr 3 = 20 from rfl]; omega
    by_cases h2 : O 8 (d * 3 + c - 1) = 0
    · rw [if_pos h2]
      refine vg_sound (fun _ _ => false) (fun m => m == 10) 60 _ _ _ _ _ _ ?_
      repeat' first | (with_reducible refine vT ?_ ?_; · omega) | (with_reducible refine vF ?_ ?_; · omega) | (with_reducible refine vI (fun _ => ?_) (fun _ => ?_)) | (simp (config := {maxSteps := 1000000}) (disch := (first | assumption | omega | (rw [hr_at]; assumption) | (rw [hr_at]; omega) | (repeat' first | assumption | decide | omega | refine FxB_nc ?_ ?_ | refine adO_B ?_ ?_ | refine rmO_B ?_ ?_))) only [f_X1_prize, wg_0, wg_s, wK_none, wK_N, wK_C, wK_R, wQ_some, wQ_none, stR, mZ, mC, stI, ini, mL, gI, gA, sI, sA, bi, gF, pF, kF, kT, kL, c2, mT, mR, f4, tsw, lsw, tgt, inR, Nat.reduceLT, Nat.reduceLeDiff, Nat.reduceEqDiff, Nat.reduceAdd, Nat.reduceSub, ↓reduceIte, Bool.false_eq_true, List.map_cons, List.map_nil, List.length_cons, List.length_nil, List.replicate, List.cons_append, List.nil_append, List.getElem?_cons_zero, List.getElem?_cons_succ, List.set, List.take_succ_cons, List.take_zero, List.drop_succ_cons, List.drop_zero, List.reverse_cons, List.reverse_nil, Int.reduceLE, Int.reduceLT, Int.reduceNeg, Int.reduceToNat, true_and, and_true, and_self, beq_iff_eq, Bool.and_eq_true, Bool.or_eq_true, or_false, false_or, or_true, true_or, and_false, false_and, hu_ho, ho_at, oc_at, oc_nc, oc_oc, adO_nc, rmO_nc, not_false_eq_true, Int.reduceEq, Int.pow_zero, Int.reducePow, Int.reduceMul, Int.reduceAdd, Int.reduceDiv, Int.reduceMod, Int.zero_add, Int.add_zero, Int.mul_one, Int.cast_ofNat_Int, e])
    · rw [if_neg h2]
      refine vg_sound (fun _ _ => false) (fun m => m == 10) 60 _ _ _ _ _ _ ?_
      repeat' first | (with_reducible refine vT ?_ ?_; · omega) | (with_reducible refine vF ?_ ?_; · omega) | (with_reducible refine vI (fun _ => ?_) (fun _ => ?_)) | (simp (config := {maxSteps := 1000000}) (disch := (first | assumption | omega | (rw [hr_at]; assumption) | (rw [hr_at]; omega) | (repeat' first | assumption | decide | omega | refine FxB_nc ?_ ?_ | refine adO_B ?_ ?_ | refine rmO_B ?_ ?_))) only [f_X1_prize, wg_0, wg_s, wK_none, wK_N, wK_C, wK_R, wQ_some, wQ_none, stR, mZ, mC, stI, ini, mL, gI, gA, sI, sA, bi, gF, pF, kF, kT, kL, c2, mT, mR, f4, tsw, lsw, tgt, inR, Nat.reduceLT, Nat.reduceLeDiff, Nat.reduceEqDiff, Nat.reduceAdd, Nat.reduceSub, ↓reduceIte, Bool.false_eq_true, List.map_cons, List.map_nil, List.length_cons, List.length_nil, List.replicate, List.cons_append, List.nil_append, List.getElem?_cons_zero, List.getElem?_cons_succ, List.set, List.take_succ_cons, List.take_zero, List.drop_succ_cons, List.drop_zero, List.reverse_cons, List.reverse_nil, Int.reduceLE, Int.reduceLT, Int.reduceNeg, Int.reduceToNat, true_and, and_true, and_self, beq_iff_eq, Bool.and_eq_true, Bool.or_eq_true, or_false, false_or, or_true, true_or, and_false, false_and, hu_ho, ho_at, oc_at, oc_nc, oc_oc, adO_nc, rmO_nc, not_false_eq_true, Int.reduceEq, Int.pow_zero, Int.reducePow, Int.reduceMul, Int.reduceAdd, Int.reduceDiv, Int.reduceMod, Int.zero_add, Int.add_zero, Int.mul_one, Int.cast_ofNat_Int, e])
def pzO (O : Of) (t : Int) : Int := prO O (t / 100) (O 3 t / 8 % 4)
set_option maxHeartbeats 4000000 in
set_option maxRecDepth 100000 in
theorem c_prizeOf {S : Hp} {k : Nat} {O : Of} {t : Int} (hB : FxB O) (hW : WnB O) (ht : 0 ≤ t ∧ t < 600) (Q : Option MV → Hp → Prop) : Wc 38 [.inr (k, 0), .inl t] (ho S k O) Q = Q (some (.inl (pzO O t))) (ho S k O) := by
  refine Wc_eq ?_ Q
  unfold Wc
  have r1 := fun Q => c_prize (S := S) (k := k) (O := O) (d := t / 100) (c := O 3 t / 8 % 4) hW (by omega) (by omega) Q
  refine vg_sound (fun _ _ => false) (fun m => m == 38) 60 _ _ _ _ _ _ ?_
  repeat' first | (with_reducible refine vT ?_ ?_; · omega) | (with_reducible refine vF ?_ ?_; · omega) | (with_reducible refine vI (fun _ => ?_) (fun _ => ?_)) | (simp (config := {maxSteps := 1000000}) (disch := (first | assumption | omega | (rw [hr_at]; assumption) | (rw [hr_at]; omega) | (repeat' first | assumption | decide | omega | refine FxB_nc ?_ ?_ | refine adO_B ?_ ?_ | refine rmO_B ?_ ?_))) only [f_X3_prizeOf, wg_0, wg_s, wK_none, wK_N, wK_C, wK_R, wQ_some, wQ_none, stR, mZ, mC, stI, ini, mL, gI, gA, sI, sA, bi, gF, pF, kF, kT, kL, c2, mT, mR, f4, tsw, lsw, tgt, inR, Nat.reduceLT, Nat.reduceLeDiff, Nat.reduceEqDiff, Nat.reduceAdd, Nat.reduceSub, ↓reduceIte, Bool.false_eq_true, List.map_cons, List.map_nil, List.length_cons, List.length_nil, List.replicate, List.cons_append, List.nil_append, List.getElem?_cons_zero, List.getElem?_cons_succ, List.set, List.take_succ_cons, List.take_zero, List.drop_succ_cons, List.drop_zero, List.reverse_cons, List.reverse_nil, Int.reduceLE, Int.reduceLT, Int.reduceNeg, Int.reduceToNat, true_and, and_true, and_self, beq_iff_eq, Bool.and_eq_true, Bool.or_eq_true, or_false, false_or, or_true, true_or, and_false, false_and, hu_ho, ho_at, oc_at, oc_nc, oc_oc, adO_nc, rmO_nc, not_false_eq_true, Int.reduceEq, Int.pow_zero, Int.reducePow, Int.reduceMul, Int.reduceAdd, Int.reduceDiv, Int.reduceMod, Int.zero_add, Int.add_zero, Int.mul_one, Int.cast_ofNat_Int, c_classOf, r1])
  rfl
def rsO (O : Of) (w t : Int) : Int := if fb O t 0 = 0 then 1 else if O 7 (t / 100) = -5 then 2 else if pzO O t = 0 then 3 else if fb O t (5 + w).toNat = 1 then 4 else if O 1 0 = 1 then (if t % 3 = w then (if fb O t 1 = 1 then 5 else 0) else 0) else if O 1 0 = 2 then (if O 3 t / 32 % 8 = 0 then 0 else 5) else 0
def WgB (O : Of) : Prop := ∀ d : Int, 0 ≤ d → d < 6 → O 7 d = -5 ∨ (0 ≤ O 7 d ∧ O 7 d < 100)
set_option maxHeartbeats 4000000 in
set_option maxRecDepth 100000 in
theorem prO_b {O : Of} {d c : Int} (hW : WnB O) (hd : 0 ≤ d ∧ d < 6) (hc : 0 ≤ c ∧ c ≤ 3) : 0 ≤ prO O d c ∧ prO O d c ≤ 400 := by
  unfold prO
  split
  · omega
  · have hw := (hW d hd.1 hd.2)
    have hw2 := hw.2 c (by omega) hc.2
    have h1 : 0 ≤ O 6 d * 10 * shr c ∧ O 6 d * 10 * shr c ≤ 40000 := by
      rcases (show c = 1 ∨ c = 2 ∨ c = 3 by omega) with rfl | rfl | rfl
      · rw [show shr 1 = 40 from rfl]; omega
      · rw [show shr 2 = 30 from rfl]; omega
      · rw [show shr 3 = 20 from rfl]; omega
    split
    · omega
    · have h3 : 0 ≤ O 6 d * 10 * shr c / 100 := by omega
      have h4 := Int.ediv_nonneg h3 hw2.1
      have h5 := Int.ediv_le_self (O 8 (d * 3 + c - 1)) h3
      omega
set_option maxHeartbeats 4000000 in
set_option maxRecDepth 100000 in
theorem c_reason {S : Hp} {k : Nat} {O : Of} {w t : Int} (hB : FxB O) (hW : WnB O) (hG : WgB O) (h5 : 0 ≤ O 1 0 ∧ O 1 0 ≤ 2) (hw : 0 ≤ w ∧ w < 3) (ht : 0 ≤ t ∧ t < 600) (Q : Option MV → Hp → Prop) : Wc 35 [.inr (k, 0), .inl w, .inl t] (ho S k O) Q = Q (some (.inl (rsO O w t))) (ho S k O) := by
  refine Wc_eq ?_ Q
  unfold Wc
  have q0 := fb_01 O t 0
  have q1 := fb_01 O t 1
  have q2 := fb_01 O t (5 + w).toNat
  have hg := hG (t / 100) (by omega) (by omega)
  have hp := pw3 hw
  have hb := prO_b (c := O 3 t / 8 % 4) hW (show 0 ≤ t / 100 ∧ t / 100 < 6 by omega) (by omega)
  have e : prO O (t / 100) (O 3 t / 8 % 4) = pzO O t := rfl
  rw [e] at hb
  obtain ⟨v, hv⟩ : ∃ v, v = rsO O w t := ⟨_, rfl⟩
  rw [← hv]
  unfold rsO at hv
  refine vg_sound (fun _ _ => false) (fun m => m == 35 || m == 5) 100 _ _ _ _ _ _ ?_
  repeat' first | (with_reducible refine vT ?_ ?_; · omega) | (with_reducible refine vF ?_ ?_; · omega) | (with_reducible refine vI (fun _ => ?_) (fun _ => ?_)) | (simp (config := {maxSteps := 1000000}) (disch := (first | assumption | omega | (rw [hr_at]; assumption) | (rw [hr_at]; omega) | (repeat' first | assumption | decide | omega | refine FxB_nc ?_ ?_ | refine adO_B ?_ ?_ | refine rmO_B ?_ ?_))) only [f_X3_reasonAgainst, f_X1_isDrawn, wg_0, wg_s, wK_none, wK_N, wK_C, wK_R, wQ_some, wQ_none, stR, mZ, mC, stI, ini, mL, gI, gA, sI, sA, bi, gF, pF, kF, kT, kL, c2, mT, mR, f4, tsw, lsw, tgt, inR, Nat.reduceLT, Nat.reduceLeDiff, Nat.reduceEqDiff, Nat.reduceAdd, Nat.reduceSub, ↓reduceIte, Bool.false_eq_true, List.map_cons, List.map_nil, List.length_cons, List.length_nil, List.replicate, List.cons_append, List.nil_append, List.getElem?_cons_zero, List.getElem?_cons_succ, List.set, List.take_succ_cons, List.take_zero, List.drop_succ_cons, List.drop_zero, List.reverse_cons, List.reverse_nil, Int.reduceLE, Int.reduceLT, Int.reduceNeg, Int.reduceToNat, true_and, and_true, and_self, beq_iff_eq, Bool.and_eq_true, Bool.or_eq_true, or_false, false_or, or_true, true_or, and_false, false_and, hu_ho, ho_at, oc_at, oc_nc, oc_oc, adO_nc, rmO_nc, not_false_eq_true, Int.reduceEq, Int.pow_zero, Int.reducePow, Int.reduceMul, Int.reduceAdd, Int.reduceDiv, Int.reduceMod, Int.zero_add, Int.add_zero, Int.mul_one, Int.cast_ofNat_Int, c_has1, c_has2, c_hasM, c_wbM, c_prizeOf])
  all_goals (simp only [Option.some.injEq, Sum.inl.injEq])
  all_goals (repeat (first | rw [if_pos (by omega)] at hv | rw [if_neg (by omega)] at hv))
  all_goals (first | exact hv.symm | omega)
