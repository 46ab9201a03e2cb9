/-! THE REFERENCE: acts -/
/- the heap after an act that made the row M' and told r -/
def actS (S : Hp) (M' : Int → Int) (r : Int) : Hp := if r < 0 then hr (hr S 0 33 (cpF (S 0 33) (S 0 31) 3833)) 0 31 (cpF M' (S 0 31) 3833) else hr (rcS (hr S 0 31 M') (cpF M' (S 0 31) 3833)) 0 33 (cpF (cpF (S 0 33) (S 0 31) 3833) M' 3833)
set_option maxHeartbeats 4000000 in
set_option maxRecDepth 100000 in
theorem cpF_abs (f g h : Int → Int) (n : Int) : cpF f (cpF g h n) n = cpF f h n := by
  funext j
  unfold cpF
  split <;> rfl
set_option maxHeartbeats 4000000 in
set_option maxRecDepth 100000 in
theorem actS_eq (S : Hp) (M' : Int → Int) (r : Int) : setS (hr (hr S 0 33 (cpF (S 0 33) (S 0 31) 3833)) 0 31 M') r = actS S M' r := by
  unfold setS actS
  by_cases h : r < 0
  · rw [if_pos h, if_pos h, hr_at, hr_nc (by decide), hr_at, cpF_abs, hr_hr]
  · rw [if_neg h, if_neg h, hr_at, hr_nc (by decide), hr_at, cpF_abs]
    unfold rcS
    rw [hr_nc (by decide), hr_nc (by decide), hr_nc (by decide), hr_nc (by decide), hr_nc (by decide), hr_nc (by decide)]
    funext a b
    unfold hr
    by_cases h0 : a = 0
    · subst h0
      by_cases h1 : b = 33
      · subst h1; simp
      · simp [h1]
    · simp [h0]
set_option maxHeartbeats 4000000 in
set_option maxRecDepth 100000 in
theorem kp_1 {S : Hp} {f g : Int → Int} (hk : 0 ≤ S 0 30 6 ∧ S 0 30 6 ≤ 4) : 0 ≤ hr (hr S 0 33 f) 0 31 g 0 30 6 ∧ hr (hr S 0 33 f) 0 31 g 0 30 6 ≤ 4 := by
  rw [hr_nc (by decide), hr_nc (by decide)]
  exact hk
/- what is told -/
def tdR (r : Int) : Prop := -2147483648 ≤ r ∧ r < 2147483648
set_option maxHeartbeats 4000000 in
set_option maxRecDepth 100000 in
theorem m_sell {S : Hp} {t : Int} (hk : 0 ≤ S 0 30 6 ∧ S 0 30 6 ≤ 4) (hF : FlB (S 0 31)) (hW : DrW (S 0 31)) (ht : tdR t) (hr1 : tdR (slR (S 0 31) t)) (Q : Option MV → Hp → Prop) : Wc 155 [.inr (0, 30), .inl t] S Q = Q (some (.inl (slR (S 0 31) t))) (actS S (slM (S 0 31) t) (slR (S 0 31) t)) := by
  refine Wc_eq ?_ Q
  unfold Wc
  have r1 := fun Q => m_lay (S := S) Q
  have r2 := fun Q => m_sellNow (S := hr S 0 33 (cpF (S 0 33) (S 0 31) 3833)) (t := t) (by rw [hr_nc (by decide)]; exact hF) (by rw [hr_nc (by decide)]; exact hW) ht Q
  rw [hr_nc (by decide)] at r2
  have r3 := fun Q => m_settle (S := hr (hr S 0 33 (cpF (S 0 33) (S 0 31) 3833)) 0 31 (slM (S 0 31) t)) (t := slR (S 0 31) t) (kp_1 hk) hr1 Q
  rw [actS_eq] at r3
  refine vg_sound (fun _ _ => false) (fun m => m == 155) 20 _ _ _ _ _ _ ?_
  repeat' first | (with_reducible refine vT ?_ ?_; · omega) | (with_reducible refine vF ?_ ?_; · omega) | (with_reducible refine vI (fun _ => ?_) (fun _ => ?_)) | (simp (config := {maxSteps := 1000000}) (disch := (first | assumption | omega | (rw [hr_at]; assumption) | (rw [hr_at]; omega))) only [f_X8_sell, wg_0, wg_s, wK_none, wK_N, wK_C, wK_R, wQ_some, wQ_none, stR, mZ, mC, stI, ini, mL, gI, gA, sI, sA, bi, gF, pF, kF, kT, kL, c2, mT, mR, f4, tsw, lsw, tgt, inR, Nat.reduceLT, Nat.reduceLeDiff, Nat.reduceEqDiff, Nat.reduceAdd, Nat.reduceSub, ↓reduceIte, Bool.false_eq_true, List.map_cons, List.map_nil, List.length_cons, List.length_nil, List.replicate, List.cons_append, List.nil_append, List.getElem?_cons_zero, List.getElem?_cons_succ, List.set, List.take_succ_cons, List.take_zero, List.drop_succ_cons, List.drop_zero, List.reverse_cons, List.reverse_nil, Int.reduceLE, Int.reduceLT, Int.reduceNeg, Int.reduceToNat, true_and, and_true, and_self, beq_iff_eq, Bool.and_eq_true, Bool.or_eq_true, or_false, false_or, or_true, true_or, and_false, false_and, hu_hr, hr_hr, hr_at, hr_nc, not_false_eq_true, Int.reduceEq, Int.pow_zero, Int.reducePow, Int.reduceMul, Int.reduceAdd, Int.reduceDiv, Int.reduceMod, Int.zero_add, Int.add_zero, Int.mul_one, Int.cast_ofNat_Int, r1, r2, r3])
set_option maxHeartbeats 4000000 in
set_option maxRecDepth 100000 in
theorem m_draw {S : Hp} {d : Int} (hk : 0 ≤ S 0 30 6 ∧ S 0 30 6 ≤ 4) (hW : DrW (S 0 31)) (h1 : 0 ≤ S 0 31 1 ∧ S 0 31 1 < 65537) (hd : tdR d) (hr1 : tdR (dwR (S 0 31) d)) (Q : Option MV → Hp → Prop) : Wc 156 [.inr (0, 30), .inl d] S Q = Q (some (.inl (dwR (S 0 31) d))) (actS S (dwM (S 0 31) d) (dwR (S 0 31) d)) := by
  refine Wc_eq ?_ Q
  unfold Wc
  have r1 := fun Q => m_lay (S := S) Q
  have r2 := fun Q => m_drawNow (S := hr S 0 33 (cpF (S 0 33) (S 0 31) 3833)) (d := d) (by rw [hr_nc (by decide)]; exact hW) (by rw [hr_nc (by decide)]; exact h1) hd Q
  rw [hr_nc (by decide)] at r2
  have r3 := fun Q => m_settle (S := hr (hr S 0 33 (cpF (S 0 33) (S 0 31) 3833)) 0 31 (dwM (S 0 31) d)) (t := dwR (S 0 31) d) (kp_1 hk) hr1 Q
  rw [actS_eq] at r3
  refine vg_sound (fun _ _ => false) (fun m => m == 156) 20 _ _ _ _ _ _ ?_
  repeat' first | (with_reducible refine vT ?_ ?_; · omega) | (with_reducible refine vF ?_ ?_; · omega) | (with_reducible refine vI (fun _ => ?_) (fun _ => ?_)) | (simp (config := {maxSteps := 1000000}) (disch := (first | assumption | omega | (rw [hr_at]; assumption) | (rw [hr_at]; omega))) only [f_X8_draw, wg_0, wg_s, wK_none, wK_N, wK_C, wK_R, wQ_some, wQ_none, stR, mZ, mC, stI, ini, mL, gI, gA, sI, sA, bi, gF, pF, kF, kT, kL, c2, mT, mR, f4, tsw, lsw, tgt, inR, Nat.reduceLT, Nat.reduceLeDiff, Nat.reduceEqDiff, Nat.reduceAdd, Nat.reduceSub, ↓reduceIte, Bool.false_eq_true, List.map_cons, List.map_nil, List.length_cons, List.length_nil, List.replicate, List.cons_append, List.nil_append, List.getElem?_cons_zero, List.getElem?_cons_succ, List.set, List.take_succ_cons, List.take_zero, List.drop_succ_cons, List.drop_zero, List.reverse_cons, List.reverse_nil, Int.reduceLE, Int.reduceLT, Int.reduceNeg, Int.reduceToNat, true_and, and_true, and_self, beq_iff_eq, Bool.and_eq_true, Bool.or_eq_true, or_false, false_or, or_true, true_or, and_false, false_and, hu_hr, hr_hr, hr_at, hr_nc, not_false_eq_true, Int.reduceEq, Int.pow_zero, Int.reducePow, Int.reduceMul, Int.reduceAdd, Int.reduceDiv, Int.reduceMod, Int.zero_add, Int.add_zero, Int.mul_one, Int.cast_ofNat_Int, r1, r2, r3])
set_option maxHeartbeats 4000000 in
set_option maxRecDepth 100000 in
theorem m_come {S : Hp} {w t : Int} (hk : 0 ≤ S 0 30 6 ∧ S 0 30 6 ≤ 4) (hs : ∀ w : Int, 0 ≤ w → w < 3 → 0 ≤ S 0 31 (8 + 15 * w) ∧ S 0 31 (8 + 15 * w) ≤ 8) (hw : tdR w) (ht : tdR t) (hr1 : tdR (cmR (S 0 31) w t)) (Q : Option MV → Hp → Prop) : Wc 157 [.inr (0, 30), .inl w, .inl t] S Q = Q (some (.inl (cmR (S 0 31) w t))) (actS S (cmM (S 0 31) w t) (cmR (S 0 31) w t)) := by
  refine Wc_eq ?_ Q
  unfold Wc
  have r1 := fun Q => m_lay (S := S) Q
  have r2 := fun Q => m_comeNow (S := hr S 0 33 (cpF (S 0 33) (S 0 31) 3833)) (w := w) (t := t) (by rw [hr_nc (by decide)]; exact hs) hw ht Q
  rw [hr_nc (by decide)] at r2
  have r3 := fun Q => m_settle (S := hr (hr S 0 33 (cpF (S 0 33) (S 0 31) 3833)) 0 31 (cmM (S 0 31) w t)) (t := cmR (S 0 31) w t) (kp_1 hk) hr1 Q
  rw [actS_eq] at r3
  refine vg_sound (fun _ _ => false) (fun m => m == 157) 20 _ _ _ _ _ _ ?_
  repeat' first | (with_reducible refine vT ?_ ?_; · omega) | (with_reducible refine vF ?_ ?_; · omega) | (with_reducible refine vI (fun _ => ?_) (fun _ => ?_)) | (simp (config := {maxSteps := 1000000}) (disch := (first | assumption | omega | (rw [hr_at]; assumption) | (rw [hr_at]; omega))) only [f_X8_come, wg_0, wg_s, wK_none, wK_N, wK_C, wK_R, wQ_some, wQ_none, stR, mZ, mC, stI, ini, mL, gI, gA, sI, sA, bi, gF, pF, kF, kT, kL, c2, mT, mR, f4, tsw, lsw, tgt, inR, Nat.reduceLT, Nat.reduceLeDiff, Nat.reduceEqDiff, Nat.reduceAdd, Nat.reduceSub, ↓reduceIte, Bool.false_eq_true, List.map_cons, List.map_nil, List.length_cons, List.length_nil, List.replicate, List.cons_append, List.nil_append, List.getElem?_cons_zero, List.getElem?_cons_succ, List.set, List.take_succ_cons, List.take_zero, List.drop_succ_cons, List.drop_zero, List.reverse_cons, List.reverse_nil, Int.reduceLE, Int.reduceLT, Int.reduceNeg, Int.reduceToNat, true_and, and_true, and_self, beq_iff_eq, Bool.and_eq_true, Bool.or_eq_true, or_false, false_or, or_true, true_or, and_false, false_and, hu_hr, hr_hr, hr_at, hr_nc, not_false_eq_true, Int.reduceEq, Int.pow_zero, Int.reducePow, Int.reduceMul, Int.reduceAdd, Int.reduceDiv, Int.reduceMod, Int.zero_add, Int.add_zero, Int.mul_one, Int.cast_ofNat_Int, r1, r2, r3])
set_option maxHeartbeats 4000000 in
set_option maxRecDepth 100000 in
theorem lvR_b {M : Int → Int} {t : Int} (hB : SlB M) : tdR (lvR M t) := by
  have b0 := hB 0 (by omega) (by omega)
  have b1 := hB 1 (by omega) (by omega)
  have b2 := hB 2 (by omega) (by omega)
  have c0 := lvW_b (t := t) (w := 0) (p := (M, 0)) b0.1
  have f0 : ∀ i : Int, ¬ (8 ≤ i ∧ i ≤ 16) → (lvW t 0 (M, 0)).1 i = M i := fun i hi => lvW_ne (p := (M, 0)) b0.1 (by omega)
  unfold tdR lvR lvT
  generalize lvW t 0 (M, 0) = p at *
  have g1 : p.1 (8 + 15 * 1) = M (8 + 15 * 1) := f0 _ (by omega)
  have c1 := lvW_b (t := t) (w := 1) (p := p) (by rw [g1]; exact b1.1)
  have f1 : ∀ i : Int, ¬ (23 ≤ i ∧ i ≤ 31) → (lvW t 1 p).1 i = p.1 i := fun i hi => lvW_ne (by rw [g1]; exact b1.1) (by omega)
  generalize lvW t 1 p = q at *
  have g2 : q.1 (8 + 15 * 2) = M (8 + 15 * 2) := by rw [f1 _ (by omega), f0 _ (by omega)]
  have c2 := lvW_b (t := t) (w := 2) (p := q) (by rw [g2]; exact b2.1)
  dsimp only at c0
  split <;> omega
set_option maxHeartbeats 4000000 in
set_option maxRecDepth 100000 in
theorem m_leave {S : Hp} {t : Int} (hk : 0 ≤ S 0 30 6 ∧ S 0 30 6 ≤ 4) (hB : SlB (S 0 31)) (ht : tdR t) (Q : Option MV → Hp → Prop) : Wc 158 [.inr (0, 30), .inl t] S Q = Q (some (.inl (if 0 ≤ t ∧ t < 600 then lvR (S 0 31) t else -1))) (if 0 ≤ t ∧ t < 600 then actS S (lvT (S 0 31) t).1 (lvR (S 0 31) t) else S) := by
  refine Wc_eq ?_ Q
  unfold Wc
  by_cases h : 0 ≤ t ∧ t < 600
  · rw [if_pos h, if_pos h]
    have r1 := fun Q => m_lay (S := S) Q
    have r2 := fun Q => m_leaveNow (S := hr S 0 33 (cpF (S 0 33) (S 0 31) 3833)) (t := t) (by rw [hr_nc (by decide)]; exact hB) h Q
    rw [hr_nc (by decide)] at r2
    have r3 := fun Q => m_settle (S := hr (hr S 0 33 (cpF (S 0 33) (S 0 31) 3833)) 0 31 (lvT (S 0 31) t).1) (t := lvR (S 0 31) t) (kp_1 hk) (lvR_b hB) Q
    rw [actS_eq] at r3
    refine vg_sound (fun _ _ => false) (fun m => m == 158 || m == 114 || m == 109) 20 _ _ _ _ _ _ ?_
    repeat' first | (with_reducible refine vT ?_ ?_; · omega) | (with_reducible refine vF ?_ ?_; · omega) | (with_reducible refine vI (fun _ => ?_) (fun _ => ?_)) | (simp (config := {maxSteps := 1000000}) (disch := (first | assumption | omega | (rw [hr_at]; assumption) | (rw [hr_at]; omega))) only [f_X8_leave, f_X8_isTicket, f_X8_in, wg_0, wg_s, wK_none, wK_N, wK_C, wK_R, wQ_some, wQ_none, stR, mZ, mC, stI, ini, mL, gI, gA, sI, sA, bi, gF, pF, kF, kT, kL, c2, mT, mR, f4, tsw, lsw, tgt, inR, Nat.reduceLT, Nat.reduceLeDiff, Nat.reduceEqDiff, Nat.reduceAdd, Nat.reduceSub, ↓reduceIte, Bool.false_eq_true, List.map_cons, List.map_nil, List.length_cons, List.length_nil, List.replicate, List.cons_append, List.nil_append, List.getElem?_cons_zero, List.getElem?_cons_succ, List.set, List.take_succ_cons, List.take_zero, List.drop_succ_cons, List.drop_zero, List.reverse_cons, List.reverse_nil, Int.reduceLE, Int.reduceLT, Int.reduceNeg, Int.reduceToNat, true_and, and_true, and_self, beq_iff_eq, Bool.and_eq_true, Bool.or_eq_true, or_false, false_or, or_true, true_or, and_false, false_and, hu_hr, hr_hr, hr_at, hr_nc, not_false_eq_true, Int.reduceEq, Int.pow_zero, Int.reducePow, Int.reduceMul, Int.reduceAdd, Int.reduceDiv, Int.reduceMod, Int.zero_add, Int.add_zero, Int.mul_one, Int.cast_ofNat_Int, r1, r2, r3])
  · rw [if_neg h, if_neg h]
    unfold tdR at ht
    refine vg_sound (fun _ _ => false) (fun m => m == 158 || m == 114 || m == 109) 20 _ _ _ _ _ _ ?_
    repeat' first | (with_reducible refine vT ?_ ?_; · omega) | (with_reducible refine vF ?_ ?_; · omega) | (with_reducible refine vI (fun _ => ?_) (fun _ => ?_)) | (simp (config := {maxSteps := 1000000}) (disch := (first | assumption | omega | (rw [hr_at]; assumption) | (rw [hr_at]; omega))) only [f_X8_leave, f_X8_isTicket, f_X8_in, wg_0, wg_s, wK_none, wK_N, wK_C, wK_R, wQ_some, wQ_none, stR, mZ, mC, stI, ini, mL, gI, gA, sI, sA, bi, gF, pF, kF, kT, kL, c2, mT, mR, f4, tsw, lsw, tgt, inR, Nat.reduceLT, Nat.reduceLeDiff, Nat.reduceEqDiff, Nat.reduceAdd, Nat.reduceSub, ↓reduceIte, Bool.false_eq_true, List.map_cons, List.map_nil, List.length_cons, List.length_nil, List.replicate, List.cons_append, List.nil_append, List.getElem?_cons_zero, List.getElem?_cons_succ, List.set, List.take_succ_cons, List.take_zero, List.drop_succ_cons, List.drop_zero, List.reverse_cons, List.reverse_nil, Int.reduceLE, Int.reduceLT, Int.reduceNeg, Int.reduceToNat, true_and, and_true, and_self, beq_iff_eq, Bool.and_eq_true, Bool.or_eq_true, or_false, false_or, or_true, true_or, and_false, false_and, hu_hr, hr_hr, hr_at, hr_nc, not_false_eq_true, Int.reduceEq, Int.pow_zero, Int.reducePow, Int.reduceMul, Int.reduceAdd, Int.reduceDiv, Int.reduceMod, Int.zero_add, Int.add_zero, Int.mul_one, Int.cast_ofNat_Int])
    all_goals (first | trivial | exact ⟨rfl, rfl⟩)
set_option maxHeartbeats 4000000 in
set_option maxRecDepth 100000 in
theorem m_pass {S : Hp} {t : Int} (hk : 0 ≤ S 0 30 6 ∧ S 0 30 6 ≤ 4) (h0 : 0 ≤ S 0 31 0 ∧ S 0 31 0 ≤ 9999) (ht : tdR t) (hT : 1 ≤ t → S 0 31 0 + t ≤ 9999 → ∀ k : Nat, (k : Int) < t → TkP (pvM (S 0 31) k) (nT (pvM (S 0 31) k))) (hr1 : tdR (paR (S 0 31) t)) (Q : Option MV → Hp → Prop) : Wc 159 [.inr (0, 30), .inl t] S Q = Q (some (.inl (paR (S 0 31) t))) (actS S (paM (S 0 31) t) (paR (S 0 31) t)) := by
  refine Wc_eq ?_ Q
  unfold Wc
  have r1 := fun Q => m_lay (S := S) Q
  have r2 := fun Q => m_passNow (S := hr S 0 33 (cpF (S 0 33) (S 0 31) 3833)) (t := t) (by rw [hr_nc (by decide)]; exact h0) ht (by rw [hr_nc (by decide)]; exact hT) Q
  rw [hr_nc (by decide)] at r2
  have r3 := fun Q => m_settle (S := hr (hr S 0 33 (cpF (S 0 33) (S 0 31) 3833)) 0 31 (paM (S 0 31) t)) (t := paR (S 0 31) t) (kp_1 hk) hr1 Q
  rw [actS_eq] at r3
  refine vg_sound (fun _ _ => false) (fun m => m == 159) 20 _ _ _ _ _ _ ?_
  repeat' first | (with_reducible refine vT ?_ ?_; · omega) | (with_reducible refine vF ?_ ?_; · omega) | (with_reducible refine vI (fun _ => ?_) (fun _ => ?_)) | (simp (config := {maxSteps := 1000000}) (disch := (first | assumption | omega | (rw [hr_at]; assumption) | (rw [hr_at]; omega))) only [f_X8_pass, wg_0, wg_s, wK_none, wK_N, wK_C, wK_R, wQ_some, wQ_none, stR, mZ, mC, stI, ini, mL, gI, gA, sI, sA, bi, gF, pF, kF, kT, kL, c2, mT, mR, f4, tsw, lsw, tgt, inR, Nat.reduceLT, Nat.reduceLeDiff, Nat.reduceEqDiff, Nat.reduceAdd, Nat.reduceSub, ↓reduceIte, Bool.false_eq_true, List.map_cons, List.map_nil, List.length_cons, List.length_nil, List.replicate, List.cons_append, List.nil_append, List.getElem?_cons_zero, List.getElem?_cons_succ, List.set, List.take_succ_cons, List.take_zero, List.drop_succ_cons, List.drop_zero, List.reverse_cons, List.reverse_nil, Int.reduceLE, Int.reduceLT, Int.reduceNeg, Int.reduceToNat, true_and, and_true, and_self, beq_iff_eq, Bool.and_eq_true, Bool.or_eq_true, or_false, false_or, or_true, true_or, and_false, false_and, hu_hr, hr_hr, hr_at, hr_nc, not_false_eq_true, Int.reduceEq, Int.pow_zero, Int.reducePow, Int.reduceMul, Int.reduceAdd, Int.reduceDiv, Int.reduceMod, Int.zero_add, Int.add_zero, Int.mul_one, Int.cast_ofNat_Int, r1, r2, r3])
def mstC (w : Int) : Int := if w = 0 then 2 else if w = 1 then 9 else 20
abbrev setOk (w v : Int) : Prop := (0 ≤ w ∧ w ≤ 2) ∧ (if w = 0 then 0 else 1) ≤ v ∧ v ≤ mstC w
def stR1 (M : Int → Int) (w v : Int) : Int := if setOk w v then (if M (5 + w) = v then -5 else M (5 + w)) else -2
def stH (S : Hp) (w v : Int) : Hp := if setOk w v then (if S 0 31 (5 + w) = v then S else hr (rcS S (S 0 31)) 0 31 (up (S 0 31) (5 + w) v)) else S
set_option maxHeartbeats 4000000 in
set_option maxRecDepth 100000 in
theorem m_set {S : Hp} {w v : Int} (hk : 0 ≤ S 0 30 6 ∧ S 0 30 6 ≤ 4) (hw : tdR w) (hv : tdR v) (hm : ∀ w : Int, 0 ≤ w → w ≤ 2 → 0 ≤ S 0 31 (5 + w) ∧ S 0 31 (5 + w) ≤ 20) (Q : Option MV → Hp → Prop) : Wc 161 [.inr (0, 30), .inl w, .inl v] S Q = Q (some (.inl (stR1 (S 0 31) w v))) (stH S w v) := by
  refine Wc_eq ?_ Q
  unfold Wc
  unfold tdR at hw hv
  have r1 := fun Q => m_record (S := S) hk Q
  unfold stR1 stH
  by_cases h : setOk w v
  · rw [if_pos h, if_pos h]
    unfold setOk mstC at h
    have hm1 := hm w h.1.1 h.1.2
    have h2 : v ≤ 20 ∧ 0 ≤ v := by
      obtain ⟨h1, h2, h3⟩ := h
      repeat' split at h3
      all_goals (split at h2 <;> omega)
    obtain ⟨ha, hb, hc⟩ := h
    by_cases e : S 0 31 (5 + w) = v
    · rw [if_pos e, if_pos e]
      by_cases w0 : w = 0
      · subst w0
        simp only [Int.reduceAdd, Int.add_zero] at e hm1
        rw [if_pos rfl] at hb hc
        refine vg_sound (fun _ _ => false) (fun m => m == 161 || m == 109 || m == 160) 60 _ _ _ _ _ _ ?_
        repeat' first | (with_reducible refine vT ?_ ?_; · omega) | (with_reducible refine vF ?_ ?_; · omega) | (with_reducible refine vI (fun _ => ?_) (fun _ => ?_)) | (simp (config := {maxSteps := 1000000}) (disch := (first | assumption | omega | (rw [hr_at]; assumption) | (rw [hr_at]; omega))) only [f_X8_set, f_X8_in, f_X8_most, wg_0, wg_s, wK_none, wK_N, wK_C, wK_R, wQ_some, wQ_none, stR, mZ, mC, stI, ini, mL, gI, gA, sI, sA, bi, gF, pF, kF, kT, kL, c2, mT, mR, f4, tsw, lsw, tgt, inR, Nat.reduceLT, Nat.reduceLeDiff, Nat.reduceEqDiff, Nat.reduceAdd, Nat.reduceSub, ↓reduceIte, Bool.false_eq_true, List.map_cons, List.map_nil, List.length_cons, List.length_nil, List.replicate, List.cons_append, List.nil_append, List.getElem?_cons_zero, List.getElem?_cons_succ, List.set, List.take_succ_cons, List.take_zero, List.drop_succ_cons, List.drop_zero, List.reverse_cons, List.reverse_nil, Int.reduceLE, Int.reduceLT, Int.reduceNeg, Int.reduceToNat, true_and, and_true, and_self, beq_iff_eq, Bool.and_eq_true, Bool.or_eq_true, or_false, false_or, or_true, true_or, and_false, false_and, hu_hr, hr_hr, hr_at, hr_nc, not_false_eq_true, Int.reduceEq, Int.pow_zero, Int.reducePow, Int.reduceMul, Int.reduceAdd, Int.reduceDiv, Int.reduceMod, Int.zero_add, Int.add_zero, Int.mul_one, Int.cast_ofNat_Int])
        all_goals (first | trivial | exact ⟨rfl, rfl⟩)
      · rw [if_neg w0] at hb hc
        by_cases w1 : w = 1
        · subst w1
          simp only [Int.reduceAdd] at e hm1
          rw [if_pos rfl] at hc
          refine vg_sound (fun _ _ => false) (fun m => m == 161 || m == 109 || m == 160) 60 _ _ _ _ _ _ ?_
          repeat' first | (with_reducible refine vT ?_ ?_; · omega) | (with_reducible refine vF ?_ ?_; · omega) | (with_reducible refine vI (fun _ => ?_) (fun _ => ?_)) | (simp (config := {maxSteps := 1000000}) (disch := (first | assumption | omega | (rw [hr_at]; assumption) | (rw [hr_at]; omega))) only [f_X8_set, f_X8_in, f_X8_most, wg_0, wg_s, wK_none, wK_N, wK_C, wK_R, wQ_some, wQ_none, stR, mZ, mC, stI, ini, mL, gI, gA, sI, sA, bi, gF, pF, kF, kT, kL, c2, mT, mR, f4, tsw, lsw, tgt, inR, Nat.reduceLT, Nat.reduceLeDiff, Nat.reduceEqDiff, Nat.reduceAdd, Nat.reduceSub, ↓reduceIte, Bool.false_eq_true, List.map_cons, List.map_nil, List.length_cons, List.length_nil, List.replicate, List.cons_append, List.nil_append, List.getElem?_cons_zero, List.getElem?_cons_succ, List.set, List.take_succ_cons, List.take_zero, List.drop_succ_cons, List.drop_zero, List.reverse_cons, List.reverse_nil, Int.reduceLE, Int.reduceLT, Int.reduceNeg, Int.reduceToNat, true_and, and_true, and_self, beq_iff_eq, Bool.and_eq_true, Bool.or_eq_true, or_false, false_or, or_true, true_or, and_false, false_and, hu_hr, hr_hr, hr_at, hr_nc, not_false_eq_true, Int.reduceEq, Int.pow_zero, Int.reducePow, Int.reduceMul, Int.reduceAdd, Int.reduceDiv, Int.reduceMod, Int.zero_add, Int.add_zero, Int.mul_one, Int.cast_ofNat_Int])
          all_goals (first | trivial | exact ⟨rfl, rfl⟩)
        · rw [if_neg w1] at hc
          refine vg_sound (fun _ _ => false) (fun m => m == 161 || m == 109 || m == 160) 60 _ _ _ _ _ _ ?_
          repeat' first | (with_reducible refine vT ?_ ?_; · omega) | (with_reducible refine vF ?_ ?_; · omega) | (with_reducible refine vI (fun _ => ?_) (fun _ => ?_)) | (simp (config := {maxSteps := 1000000}) (disch := (first | assumption | omega | (rw [hr_at]; assumption) | (rw [hr_at]; omega))) only [f_X8_set, f_X8_in, f_X8_most, wg_0, wg_s, wK_none, wK_N, wK_C, wK_R, wQ_some, wQ_none, stR, mZ, mC, stI, ini, mL, gI, gA, sI, sA, bi, gF, pF, kF, kT, kL, c2, mT, mR, f4, tsw, lsw, tgt, inR, Nat.reduceLT, Nat.reduceLeDiff, Nat.reduceEqDiff, Nat.reduceAdd, Nat.reduceSub, ↓reduceIte, Bool.false_eq_true, List.map_cons, List.map_nil, List.length_cons, List.length_nil, List.replicate, List.cons_append, List.nil_append, List.getElem?_cons_zero, List.getElem?_cons_succ, List.set, List.take_succ_cons, List.take_zero, List.drop_succ_cons, List.drop_zero, List.reverse_cons, List.reverse_nil, Int.reduceLE, Int.reduceLT, Int.reduceNeg, Int.reduceToNat, true_and, and_true, and_self, beq_iff_eq, Bool.and_eq_true, Bool.or_eq_true, or_false, false_or, or_true, true_or, and_false, false_and, hu_hr, hr_hr, hr_at, hr_nc, not_false_eq_true, Int.reduceEq, Int.pow_zero, Int.reducePow, Int.reduceMul, Int.reduceAdd, Int.reduceDiv, Int.reduceMod, Int.zero_add, Int.add_zero, Int.mul_one, Int.cast_ofNat_Int])
          all_goals (first | trivial | exact ⟨rfl, rfl⟩)
    · rw [if_neg e, if_neg e]
      unfold rcS
      by_cases w0 : w = 0
      · subst w0
        simp only [Int.reduceAdd, Int.add_zero] at e hm1
        rw [if_pos rfl] at hb hc
        refine vg_sound (fun _ _ => false) (fun m => m == 161 || m == 109 || m == 160) 60 _ _ _ _ _ _ ?_
        repeat' first | (with_reducible refine vT ?_ ?_; · omega) | (with_reducible refine vF ?_ ?_; · omega) | (with_reducible refine vI (fun _ => ?_) (fun _ => ?_)) | (simp (config := {maxSteps := 1000000}) (disch := (first | assumption | omega | (rw [hr_at]; assumption) | (rw [hr_at]; omega))) only [f_X8_set, f_X8_in, f_X8_most, wg_0, wg_s, wK_none, wK_N, wK_C, wK_R, wQ_some, wQ_none, stR, mZ, mC, stI, ini, mL, gI, gA, sI, sA, bi, gF, pF, kF, kT, kL, c2, mT, mR, f4, tsw, lsw, tgt, inR, Nat.reduceLT, Nat.reduceLeDiff, Nat.reduceEqDiff, Nat.reduceAdd, Nat.reduceSub, ↓reduceIte, Bool.false_eq_true, List.map_cons, List.map_nil, List.length_cons, List.length_nil, List.replicate, List.cons_append, List.nil_append, List.getElem?_cons_zero, List.getElem?_cons_succ, List.set, List.take_succ_cons, List.take_zero, List.drop_succ_cons, List.drop_zero, List.reverse_cons, List.reverse_nil, Int.reduceLE, Int.reduceLT, Int.reduceNeg, Int.reduceToNat, true_and, and_true, and_self, beq_iff_eq, Bool.and_eq_true, Bool.or_eq_true, or_false, false_or, or_true, true_or, and_false, false_and, hu_hr, hr_hr, hr_at, hr_nc, not_false_eq_true, Int.reduceEq, Int.pow_zero, Int.reducePow, Int.reduceMul, Int.reduceAdd, Int.reduceDiv, Int.reduceMod, Int.zero_add, Int.add_zero, Int.mul_one, Int.cast_ofNat_Int, r1])
        all_goals (first | trivial | exact ⟨rfl, rfl⟩)
      · rw [if_neg w0] at hb hc
        by_cases w1 : w = 1
        · subst w1
          simp only [Int.reduceAdd] at e hm1
          rw [if_pos rfl] at hc
          refine vg_sound (fun _ _ => false) (fun m => m == 161 || m == 109 || m == 160) 60 _ _ _ _ _ _ ?_
          repeat' first | (with_reducible refine vT ?_ ?_; · omega) | (with_reducible refine vF ?_ ?_; · omega) | (with_reducible refine vI (fun _ => ?_) (fun _ => ?_)) | (simp (config := {maxSteps := 1000000}) (disch := (first | assumption | omega | (rw [hr_at]; assumption) | (rw [hr_at]; omega))) only [f_X8_set, f_X8_in, f_X8_most, wg_0, wg_s, wK_none, wK_N, wK_C, wK_R, wQ_some, wQ_none, stR, mZ, mC, stI, ini, mL, gI, gA, sI, sA, bi, gF, pF, kF, kT, kL, c2, mT, mR, f4, tsw, lsw, tgt, inR, Nat.reduceLT, Nat.reduceLeDiff, Nat.reduceEqDiff, Nat.reduceAdd, Nat.reduceSub, ↓reduceIte, Bool.false_eq_true, List.map_cons, List.map_nil, List.length_cons, List.length_nil, List.replicate, List.cons_append, List.nil_append, List.getElem?_cons_zero, List.getElem?_cons_succ, List.set, List.take_succ_cons, List.take_zero, List.drop_succ_cons, List.drop_zero, List.reverse_cons, List.reverse_nil, Int.reduceLE, Int.reduceLT, Int.reduceNeg, Int.reduceToNat, true_and, and_true, and_self, beq_iff_eq, Bool.and_eq_true, Bool.or_eq_true, or_false, false_or, or_true, true_or, and_false, false_and, hu_hr, hr_hr, hr_at, hr_nc, not_false_eq_true, Int.reduceEq, Int.pow_zero, Int.reducePow, Int.reduceMul, Int.reduceAdd, Int.reduceDiv, Int.reduceMod, Int.zero_add, Int.add_zero, Int.mul_one, Int.cast_ofNat_Int, r1])
          all_goals (first | trivial | exact ⟨rfl, rfl⟩)
        · rw [if_neg w1] at hc
          refine vg_sound (fun _ _ => false) (fun m => m == 161 || m == 109 || m == 160) 60 _ _ _ _ _ _ ?_
          repeat' first | (with_reducible refine vT ?_ ?_; · omega) | (with_reducible refine vF ?_ ?_; · omega) | (with_reducible refine vI (fun _ => ?_) (fun _ => ?_)) | (simp (config := {maxSteps := 1000000}) (disch := (first | assumption | omega | (rw [hr_at]; assumption) | (rw [hr_at]; omega))) only [f_X8_set, f_X8_in, f_X8_most, wg_0, wg_s, wK_none, wK_N, wK_C, wK_R, wQ_some, wQ_none, stR, mZ, mC, stI, ini, mL, gI, gA, sI, sA, bi, gF, pF, kF, kT, kL, c2, mT, mR, f4, tsw, lsw, tgt, inR, Nat.reduceLT, Nat.reduceLeDiff, Nat.reduceEqDiff, Nat.reduceAdd, Nat.reduceSub, ↓reduceIte, Bool.false_eq_true, List.map_cons, List.map_nil, List.length_cons, List.length_nil, List.replicate, List.cons_append, List.nil_append, List.getElem?_cons_zero, List.getElem?_cons_succ, List.set, List.take_succ_cons, List.take_zero, List.drop_succ_cons, List.drop_zero, List.reverse_cons, List.reverse_nil, Int.reduceLE, Int.reduceLT, Int.reduceNeg, Int.reduceToNat, true_and, and_true, and_self, beq_iff_eq, Bool.and_eq_true, Bool.or_eq_true, or_false, false_or, or_true, true_or, and_false, false_and, hu_hr, hr_hr, hr_at, hr_nc, not_false_eq_true, Int.reduceEq, Int.pow_zero, Int.reducePow, Int.reduceMul, Int.reduceAdd, Int.reduceDiv, Int.reduceMod, Int.zero_add, Int.add_zero, Int.mul_one, Int.cast_ofNat_Int, r1])
          all_goals (first | trivial | exact ⟨rfl, rfl⟩)
  · rw [if_neg h, if_neg h]
    unfold setOk mstC at h
    refine vg_sound (fun _ _ => false) (fun m => m == 161 || m == 109 || m == 160) 60 _ _ _ _ _ _ ?_
    repeat' first | (with_reducible refine vT ?_ ?_; · omega) | (with_reducible refine vF ?_ ?_; · omega) | (with_reducible refine vI (fun _ => ?_) (fun _ => ?_)) | (simp (config := {maxSteps := 1000000}) (disch := (first | assumption | omega | (rw [hr_at]; assumption) | (rw [hr_at]; omega))) only [f_X8_set, f_X8_in, f_X8_most, wg_0, wg_s, wK_none, wK_N, wK_C, wK_R, wQ_some, wQ_none, stR, mZ, mC, stI, ini, mL, gI, gA, sI, sA, bi, gF, pF, kF, kT, kL, c2, mT, mR, f4, tsw, lsw, tgt, inR, Nat.reduceLT, Nat.reduceLeDiff, Nat.reduceEqDiff, Nat.reduceAdd, Nat.reduceSub, ↓reduceIte, Bool.false_eq_true, List.map_cons, List.map_nil, List.length_cons, List.length_nil, List.replicate, List.cons_append, List.nil_append, List.getElem?_cons_zero, List.getElem?_cons_succ, List.set, List.take_succ_cons, List.take_zero, List.drop_succ_cons, List.drop_zero, List.reverse_cons, List.reverse_nil, Int.reduceLE, Int.reduceLT, Int.reduceNeg, Int.reduceToNat, true_and, and_true, and_self, beq_iff_eq, Bool.and_eq_true, Bool.or_eq_true, or_false, false_or, or_true, true_or, and_false, false_and, hu_hr, hr_hr, hr_at, hr_nc, not_false_eq_true, Int.reduceEq, Int.pow_zero, Int.reducePow, Int.reduceMul, Int.reduceAdd, Int.reduceDiv, Int.reduceMod, Int.zero_add, Int.add_zero, Int.mul_one, Int.cast_ofNat_Int])
    all_goals (first | trivial | exact ⟨rfl, rfl⟩ | (exfalso; apply h; refine ⟨⟨by omega, by omega⟩, ?_, ?_⟩ <;> (repeat' split) <;> omega))
