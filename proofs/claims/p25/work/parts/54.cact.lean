/-! THE CLASS: payments, messages that come, windows that serve -/
def snO (O : Of) (kind w t d : Int) : Of := oc (oc (oc O 19 (up (O 19) (O 18 0) d)) 20 (up (O 20) (O 18 0) ((kind * 3 + w) * 600 + t))) 18 (up (O 18) 0 (O 18 0 + 1))
set_option maxHeartbeats 4000000 in
set_option maxRecDepth 100000 in
theorem c_send {S : Hp} {k : Nat} {O : Of} {kind w t d : Int} (hn : 0 ≤ O 18 0 ∧ O 18 0 < 150) (Q : Option MV → Hp → Prop) : Wc 14 [.inr (k, 18), .inl kind, .inl w, .inl t, .inl d] (ho S k O) Q = Q none (ho S k (snO O kind w t d)) := by
  refine Wc_eq ?_ Q
  unfold Wc snO
  refine vg_sound (fun _ _ => false) (fun m => m == 14) 60 _ _ _ _ _ _ ?_
  repeat' first | (with_reducible refine vT ?_ ?_; · omega) | (with_reducible refine vF ?_ ?_; · omega) | (with_reducible refine vI (fun _ => ?_) (fun _ => ?_)) | (simp (config := {maxSteps := 1000000}) (disch := (first | assumption | omega | (rw [hr_at]; assumption) | (rw [hr_at]; omega) | (repeat' first | assumption | decide | omega | refine FxB_nc ?_ ?_ | refine adO_B ?_ ?_ | refine rmO_B ?_ ?_))) only [f_X2_send, wg_0, wg_s, wK_none, wK_N, wK_C, wK_R, wQ_some, wQ_none, stR, mZ, mC, stI, ini, mL, gI, gA, sI, sA, bi, gF, pF, kF, kT, kL, c2, mT, mR, f4, tsw, lsw, tgt, inR, Nat.reduceLT, Nat.reduceLeDiff, Nat.reduceEqDiff, Nat.reduceAdd, Nat.reduceSub, ↓reduceIte, Bool.false_eq_true, List.map_cons, List.map_nil, List.length_cons, List.length_nil, List.replicate, List.cons_append, List.nil_append, List.getElem?_cons_zero, List.getElem?_cons_succ, List.set, List.take_succ_cons, List.take_zero, List.drop_succ_cons, List.drop_zero, List.reverse_cons, List.reverse_nil, Int.reduceLE, Int.reduceLT, Int.reduceNeg, Int.reduceToNat, true_and, and_true, and_self, beq_iff_eq, Bool.and_eq_true, Bool.or_eq_true, or_false, false_or, or_true, true_or, and_false, false_and, hu_ho, ho_at, oc_at, oc_nc, oc_oc, adO_nc, rmO_nc, not_false_eq_true, Int.reduceEq, Int.pow_zero, Int.reducePow, Int.reduceMul, Int.reduceAdd, Int.reduceDiv, Int.reduceMod, Int.zero_add, Int.add_zero, Int.mul_one, Int.cast_ofNat_Int])
set_option maxHeartbeats 4000000 in
set_option maxRecDepth 100000 in
theorem snO_nc {O : Of} {kind w t d : Int} {c : Nat} (h : ¬ c = 18 ∧ ¬ c = 19 ∧ ¬ c = 20) : snO O kind w t d c = O c := by
  unfold snO
  rw [oc_nc h.1, oc_nc h.2.2, oc_nc h.2.1]
set_option maxHeartbeats 4000000 in
set_option maxRecDepth 100000 in
theorem snO_n {O : Of} {kind w t d : Int} : snO O kind w t d 18 0 = O 18 0 + 1 := by
  unfold snO
  rw [oc_at, up_eq rfl]
def pyO1 (O : Of) (w t : Int) : Of := oc (oc O 14 (up (O 14) w (O 14 w + pzO O t))) 15 (up (O 15) w (O 15 w + 1))
def pyO2 (O : Of) (w t : Int) : Of := if bt3 (O 3 t / 256 % 8) = 1 then oc (pyO1 O w t) 0 (up (O 0) 8 (O 0 8 + 1)) else pyO1 O w t
def npO (O : Of) (w t : Int) : Of := if O 4 t = 0 ∨ O 0 0 * 3 + w + 1 < O 4 t then oc O 4 (up (O 4) t (O 0 0 * 3 + w + 1)) else O
def pyO3 (O : Of) (w t : Int) : Of := adO (npO (adO (pyO2 O w t) t (8 + w).toNat) w t) t (5 + w).toNat
def s2O (O : Of) (w t d : Int) : Of := if w = 0 then snO (snO O 0 1 t d) 0 2 t d else if w = 1 then snO (snO O 0 0 t d) 0 2 t d else snO (snO O 0 0 t d) 0 1 t d
def pyO (O : Of) (w t : Int) : Of := s2O (pyO3 O w t) w t (O 0 0 + O 1 1)
set_option maxHeartbeats 4000000 in
set_option maxRecDepth 100000 in
theorem npO_nc {O : Of} {w t : Int} {c : Nat} (h : ¬ c = 4) : npO O w t c = O c := by
  unfold npO
  split
  · exact oc_nc h
  · rfl
set_option maxHeartbeats 4000000 in
set_option maxRecDepth 100000 in
theorem c_note {S : Hp} {k : Nat} {O : Of} {w t x : Int} (hx : x = O 0 0) (hw : 0 ≤ w ∧ w < 3) (ht : 0 ≤ t ∧ t < 600) (h0 : 0 ≤ O 0 0 ∧ O 0 0 < 100000) (h4 : 0 ≤ O 4 t ∧ O 4 t < 1000000) (Q : Option MV → Hp → Prop) : Wc 50 [.inr (k, 2), .inl t, .inl w, .inl x] (ho S k O) Q = Q none (ho S k (npO O w t)) := by
  subst hx
  refine Wc_eq ?_ Q
  unfold Wc npO
  refine vg_sound (fun _ _ => false) (fun m => m == 50) 60 _ _ _ _ _ _ ?_
  repeat' first | (with_reducible refine vT ?_ ?_; · omega) | (with_reducible refine vF ?_ ?_; · omega) | (with_reducible refine vI (fun _ => ?_) (fun _ => ?_)) | (simp (config := {maxSteps := 1000000}) (disch := (first | assumption | omega | (rw [hr_at]; assumption) | (rw [hr_at]; omega) | (repeat' first | assumption | decide | omega | refine FxB_nc ?_ ?_ | refine adO_B ?_ ?_ | refine rmO_B ?_ ?_))) only [f_X5_notePayment, wg_0, wg_s, wK_none, wK_N, wK_C, wK_R, wQ_some, wQ_none, stR, mZ, mC, stI, ini, mL, gI, gA, sI, sA, bi, gF, pF, kF, kT, kL, c2, mT, mR, f4, tsw, lsw, tgt, inR, Nat.reduceLT, Nat.reduceLeDiff, Nat.reduceEqDiff, Nat.reduceAdd, Nat.reduceSub, ↓reduceIte, Bool.false_eq_true, List.map_cons, List.map_nil, List.length_cons, List.length_nil, List.replicate, List.cons_append, List.nil_append, List.getElem?_cons_zero, List.getElem?_cons_succ, List.set, List.take_succ_cons, List.take_zero, List.drop_succ_cons, List.drop_zero, List.reverse_cons, List.reverse_nil, Int.reduceLE, Int.reduceLT, Int.reduceNeg, Int.reduceToNat, true_and, and_true, and_self, beq_iff_eq, Bool.and_eq_true, Bool.or_eq_true, or_false, false_or, or_true, true_or, and_false, false_and, hu_ho, ho_at, oc_at, oc_nc, oc_oc, adO_nc, rmO_nc, not_false_eq_true, Int.reduceEq, Int.pow_zero, Int.reducePow, Int.reduceMul, Int.reduceAdd, Int.reduceDiv, Int.reduceMod, Int.zero_add, Int.add_zero, Int.mul_one, Int.cast_ofNat_Int])
  all_goals (repeat (first | rw [if_pos (by omega)] | rw [if_neg (by omega)]))
def PyP (O : Of) (t : Int) : Prop := FxB O ∧ WnB O ∧ (0 ≤ O 18 0 ∧ O 18 0 < 149) ∧ (0 ≤ O 0 0 ∧ O 0 0 < 100000) ∧ 0 ≤ O 4 t ∧ O 4 t < 1000000
set_option maxHeartbeats 4000000 in
set_option maxRecDepth 100000 in
theorem pyO2_nc {O : Of} {w t : Int} {c : Nat} (h : ¬ c = 14 ∧ ¬ c = 15 ∧ ¬ c = 0) : pyO2 O w t c = O c := by
  unfold pyO2 pyO1
  split
  · rw [oc_nc h.2.2, oc_nc h.2.1, oc_nc h.1]
  · rw [oc_nc h.2.1, oc_nc h.1]
set_option maxHeartbeats 4000000 in
set_option maxRecDepth 100000 in
theorem pyO2_0 {O : Of} {w t : Int} : pyO2 O w t 0 0 = O 0 0 := by
  unfold pyO2 pyO1
  split
  · rw [oc_at, up_ne (by decide)]
  · rw [oc_nc (by decide), oc_nc (by decide)]
set_option maxHeartbeats 4000000 in
set_option maxRecDepth 100000 in
theorem pyO3_nc {O : Of} {w t : Int} {c : Nat} (h : ¬ c = 14 ∧ ¬ c = 15 ∧ ¬ c = 0 ∧ ¬ c = 3 ∧ ¬ c = 4) : pyO3 O w t c = O c := by
  unfold pyO3
  rw [adO_nc h.2.2.2.1, npO_nc h.2.2.2.2, adO_nc h.2.2.2.1, pyO2_nc ⟨h.1, h.2.1, h.2.2.1⟩]
set_option maxHeartbeats 4000000 in
set_option maxRecDepth 100000 in
theorem pyO3_0 {O : Of} {w t : Int} : pyO3 O w t 0 0 = O 0 0 := by
  unfold pyO3
  rw [adO_nc (by decide), npO_nc (by decide), adO_nc (by decide), pyO2_0]
set_option maxHeartbeats 4000000 in
set_option maxRecDepth 100000 in
theorem pyO2_B {O : Of} {w t : Int} (h : FxB O) : FxB (pyO2 O w t) := by
  intro s h1 h2
  rw [pyO2_nc (by decide)]
  exact h s h1 h2
set_option maxHeartbeats 4000000 in
set_option maxRecDepth 100000 in
theorem npO_B {O : Of} {w t : Int} (h : FxB O) : FxB (npO O w t) := by
  intro s h1 h2
  rw [npO_nc (by decide)]
  exact h s h1 h2
set_option maxHeartbeats 4000000 in
set_option maxRecDepth 100000 in
theorem c_pay {S : Hp} {k : Nat} {O : Of} {w t : Int} (hP : PyP O t) (hw : 0 ≤ w ∧ w < 3) (ht : 0 ≤ t ∧ t < 600) (Q : Option MV → Hp → Prop) : Wc 36 [.inr (k, 0), .inl w, .inl t] (ho S k O) Q = Q none (ho S k (pyO O w t)) := by
  refine Wc_eq ?_ Q
  unfold Wc
  obtain ⟨hB, hW, hn, h0, h4⟩ := hP
  have hp := pw3 hw
  have hB2 := pyO2_B (w := w) (t := t) hB
  have hB3 := adO_B (t := t) (i := (8 + w).toNat) hB2 (by omega)
  have hB4 := npO_B (w := w) (t := t) hB3
  have eb : (O 3 t / 256 % 8) < 8 ∧ 0 ≤ O 3 t / 256 % 8 := by omega
  have r1 := fun Q => c_addP (S := S) (k := k) (t := t) hw hB2 ht Q
  have r2 := fun Q => c_note (S := S) (k := k) (O := adO (pyO2 O w t) t (8 + w).toNat) (w := w) (t := t) (x := O 0 0) (by rw [adO_nc (by decide), pyO2_0]) hw ht (by rw [adO_nc (by decide), pyO2_0]; exact h0) (by rw [adO_nc (by decide), pyO2_nc (by decide)]; exact h4) Q
  have r3 := fun Q => c_addM (S := S) (k := k) (t := t) hw hB4 ht Q
  have s1 := fun (a : Int) Q => c_send (S := S) (k := k) (O := pyO3 O w t) (kind := 0) (w := a) (t := t) (d := O 0 0 + O 1 1) (by rw [pyO3_nc (by decide)]; omega) Q
  have s2 := fun (b a : Int) Q => c_send (S := S) (k := k) (O := snO (pyO3 O w t) 0 b t (O 0 0 + O 1 1)) (kind := 0) (w := a) (t := t) (d := O 0 0 + O 1 1) (by rw [snO_n, pyO3_nc (by decide)]; omega) Q
  have e3 : adO (npO (adO (pyO2 O w t) t (8 + w).toNat) w t) t (5 + w).toNat = pyO3 O w t := rfl
  have e1 : oc (oc O 14 (up (O 14) w (O 14 w + pzO O t))) 15 (up (O 15) w (O 15 w + 1)) = pyO1 O w t := rfl
  have t3 : ∀ c, ¬ c = 14 ∧ ¬ c = 15 ∧ ¬ c = 0 ∧ ¬ c = 3 ∧ ¬ c = 4 → pyO3 O w t c = O c := fun c h => pyO3_nc h
  have t31 := t3 1 (by decide)
  have t30 := pyO3_0 (O := O) (w := w) (t := t)
  have t21 : ∀ b : Int, snO (pyO3 O w t) 0 b t (O 0 0 + O 1 1) 1 = O 1 := fun b => by rw [snO_nc (by decide), t31]
  have t20 : ∀ b : Int, snO (pyO3 O w t) 0 b t (O 0 0 + O 1 1) 0 0 = O 0 0 := fun b => by rw [snO_nc (by decide), t30]
  have u0 : pyO2 O w t 0 0 = O 0 0 := pyO2_0
  have e14 : pyO1 O w t 0 = O 0 := by unfold pyO1; rw [oc_nc (by decide), oc_nc (by decide)]
  have e13 : pyO1 O w t 3 = O 3 := by unfold pyO1; rw [oc_nc (by decide), oc_nc (by decide)]
  have hB1 : FxB (pyO1 O w t) := fun s h1 h2 => by rw [e13]; exact hB s h1 h2
  have r0 := fun Q => c_wbP (S := S) (k := k) (O := pyO1 O w t) hB1 ht Q
  rw [e13] at r0
  have s10 := s1 0
  have s11 := s1 1
  have s12 := s1 2
  have s20 := fun b => s2 b 0
  have s21 := fun b => s2 b 1
  have s22 := fun b => s2 b 2
  unfold pyO s2O
  by_cases hb : bt3 (O 3 t / 256 % 8) = 1
  · have e2 : oc (pyO1 O w t) 0 (up (O 0) 8 (O 0 8 + 1)) = pyO2 O w t := by unfold pyO2; rw [if_pos hb]
    refine vg_sound (fun _ _ => false) (fun m => m == 36 || m == 62) 200 _ _ _ _ _ _ ?_
    repeat' first | (with_reducible refine vT ?_ ?_; · omega) | (with_reducible refine vF ?_ ?_; · omega) | (with_reducible refine vI (fun _ => ?_) (fun _ => ?_)) | (simp (config := {maxSteps := 1000000}) (disch := (first | assumption | omega | (rw [hr_at]; assumption) | (rw [hr_at]; omega) | (repeat' first | assumption | decide | omega | refine FxB_nc ?_ ?_ | refine adO_B ?_ ?_ | refine rmO_B ?_ ?_))) only [f_X3_pay, f_X6_addPayment, wg_0, wg_s, wK_none, wK_N, wK_C, wK_R, wQ_some, wQ_none, stR, mZ, mC, stI, ini, mL, gI, gA, sI, sA, bi, gF, pF, kF, kT, kL, c2, mT, mR, f4, tsw, lsw, tgt, inR, Nat.reduceLT, Nat.reduceLeDiff, Nat.reduceEqDiff, Nat.reduceAdd, Nat.reduceSub, ↓reduceIte, Bool.false_eq_true, List.map_cons, List.map_nil, List.length_cons, List.length_nil, List.replicate, List.cons_append, List.nil_append, List.getElem?_cons_zero, List.getElem?_cons_succ, List.set, List.take_succ_cons, List.take_zero, List.drop_succ_cons, List.drop_zero, List.reverse_cons, List.reverse_nil, Int.reduceLE, Int.reduceLT, Int.reduceNeg, Int.reduceToNat, true_and, and_true, and_self, beq_iff_eq, Bool.and_eq_true, Bool.or_eq_true, or_false, false_or, or_true, true_or, and_false, false_and, hu_ho, ho_at, oc_at, oc_nc, oc_oc, adO_nc, rmO_nc, not_false_eq_true, Int.reduceEq, Int.pow_zero, Int.reducePow, Int.reduceMul, Int.reduceAdd, Int.reduceDiv, Int.reduceMod, Int.zero_add, Int.add_zero, Int.mul_one, Int.cast_ofNat_Int, c_prizeOf, c_bitsP, hb, e1, e2, e14, r0, r1, r2, r3, e3, s10, s11, s12, s20, s21, s22, t31, t30, t21, t20, u0])
    all_goals (repeat (first | rw [if_pos (by omega)] | rw [if_neg (by omega)]))
  · have e2 : pyO1 O w t = pyO2 O w t := by unfold pyO2; rw [if_neg hb]
    rw [e2] at r0 e1 e14
    have hb3 : 0 ≤ bt3 (O 3 t / 256 % 8) ∧ bt3 (O 3 t / 256 % 8) ≤ 3 := by unfold bt3; omega
    refine vg_sound (fun _ _ => false) (fun m => m == 36 || m == 62) 200 _ _ _ _ _ _ ?_
    repeat' first | (with_reducible refine vT ?_ ?_; · omega) | (with_reducible refine vF ?_ ?_; · omega) | (with_reducible refine vI (fun _ => ?_) (fun _ => ?_)) | (simp (config := {maxSteps := 1000000}) (disch := (first | assumption | omega | (rw [hr_at]; assumption) | (rw [hr_at]; omega) | (repeat' first | assumption | decide | omega | refine FxB_nc ?_ ?_ | refine adO_B ?_ ?_ | refine rmO_B ?_ ?_))) only [f_X3_pay, f_X6_addPayment, wg_0, wg_s, wK_none, wK_N, wK_C, wK_R, wQ_some, wQ_none, stR, mZ, mC, stI, ini, mL, gI, gA, sI, sA, bi, gF, pF, kF, kT, kL, c2, mT, mR, f4, tsw, lsw, tgt, inR, Nat.reduceLT, Nat.reduceLeDiff, Nat.reduceEqDiff, Nat.reduceAdd, Nat.reduceSub, ↓reduceIte, Bool.false_eq_true, List.map_cons, List.map_nil, List.length_cons, List.length_nil, List.replicate, List.cons_append, List.nil_append, List.getElem?_cons_zero, List.getElem?_cons_succ, List.set, List.take_succ_cons, List.take_zero, List.drop_succ_cons, List.drop_zero, List.reverse_cons, List.reverse_nil, Int.reduceLE, Int.reduceLT, Int.reduceNeg, Int.reduceToNat, true_and, and_true, and_self, beq_iff_eq, Bool.and_eq_true, Bool.or_eq_true, or_false, false_or, or_true, true_or, and_false, false_and, hu_ho, ho_at, oc_at, oc_nc, oc_oc, adO_nc, rmO_nc, not_false_eq_true, Int.reduceEq, Int.pow_zero, Int.reducePow, Int.reduceMul, Int.reduceAdd, Int.reduceDiv, Int.reduceMod, Int.zero_add, Int.add_zero, Int.mul_one, Int.cast_ofNat_Int, c_prizeOf, c_bitsP, e1, e14, r0, r1, r2, r3, e3, s10, s11, s12, s20, s21, s22, t31, t30, t21, t20, u0])
    all_goals (repeat (first | rw [if_pos (by omega)] | rw [if_neg (by omega)]))
