/-! THE LAW: tell -/
def TLO (O : Of) (k : Int) : Int := if k < 12 then toV O k else if k < 15 then O 1 (k - 12) else if k < 45 then (if (k - 15) % 10 = 5 then mkV O ((k - 15) / 10) else wtV O ((k - 15) / 10) ((k - 15) % 10)) else if k < 57 then (if (k - 45) % 2 = 0 then 1000 * dtV O ((k - 45) / 2) 1 + dtV O ((k - 45) / 2) 7 else dtV O ((k - 45) / 2) 3) else if k = 57 then ctS O else shO O
/- it hangs on the row alone -/
set_option maxHeartbeats 4000000 in
set_option maxRecDepth 100000 in
theorem TLO_eq {O P : Of} {M : Int → Int} (h : T1 O M) (h' : T1 P M) {k : Int} (hk : 0 ≤ k ∧ k < 59) : TLO O k = TLO P k := by
  have w : ∀ a b : Int, 0 ≤ a → a < 3 → (if b = 5 then mkV O a else wtV O a b) = (if b = 5 then mkV P a else wtV P a b) := fun a b a1 a2 => by
    have p := Q_window h.1 a b
    have q := Q_window h'.1 a b
    rw [if_pos ⟨a1, a2⟩] at p q
    rw [p, q]
  have d : ∀ a b : Int, 0 ≤ a → a < 6 → dtV O a b = dtV P a b := fun a b a1 a2 => by
    have p := Q_draw h.1 a b
    have q := Q_draw h'.1 a b
    rw [if_pos ⟨a1, a2⟩] at p q
    rw [p, q]
  unfold TLO
  by_cases c1 : k < 12
  · rw [if_pos c1, if_pos c1, Q_total h.1 (fun _ => 0) k (by omega), Q_total h'.1 (fun _ => 0) k (by omega)]
  · rw [if_neg c1, if_neg c1]
    by_cases c2 : k < 15
    · rw [if_pos c2, if_pos c2, (RR_set3 h.1 (k - 12) (by omega) (by omega)).1, (RR_set3 h'.1 (k - 12) (by omega) (by omega)).1]
    · rw [if_neg c2, if_neg c2]
      by_cases c3 : k < 45
      · rw [if_pos c3, if_pos c3]
        exact w _ _ (by omega) (by omega)
      · rw [if_neg c3, if_neg c3]
        by_cases c4 : k < 57
        · rw [if_pos c4, if_pos c4, d _ _ (by omega) (by omega), d _ _ (by omega) (by omega), d _ _ (by omega) (by omega)]
        · rw [if_neg c4, if_neg c4, (Q_paid h.1).2, (Q_paid h'.1).2, Q_short h.1, Q_short h'.1]
section TELL
variable {S : Hp} {al : Nat} {M : Int → Int}
/- rows of copies don't show -/
set_option maxHeartbeats 4000000 in
set_option maxRecDepth 100000 in
theorem al_nw {f : Int → Int} : nw (hr S al 30 f) = nw S ∧ sp (hr S al 30 f) = sp S ∧ ∀ k c : Nat, ¬ c = 30 → hr S al 30 f k c = S k c := by
  have e : ∀ k c : Nat, ¬ c = 30 → hr S al 30 f k c = S k c := fun k c h => hr_nc h
  refine ⟨?_, ?_, e⟩
  · unfold nw; rw [e 0 23 (by decide)]
  · unfold sp; rw [e 0 23 (by decide)]
set_option maxHeartbeats 4000000 in
set_option maxRecDepth 100000 in
theorem al_LQ {f : Int → Int} (h : LQ S) : LQ (hr S al 30 f) := (LQ_cg h (al_nw.2.2 0 23 (by decide)) (al_nw.2.2 0 24 (by decide))).1
set_option maxHeartbeats 4000000 in
set_option maxRecDepth 100000 in
theorem al_GM {f : Int → Int} (h : GM (S (nw S)) M) : GM (hr S al 30 f (nw (hr S al 30 f))) M := by
  rw [al_nw.1]
  exact GM_sc (fun c hc => al_nw.2.2 (nw S) c (by omega)) h
set_option maxHeartbeats 4000000 in
set_option maxRecDepth 100000 in
theorem r_count (hG : GM (S (nw S)) M) {f : Int → Int} {a : Int} (ha : 0 ≤ a ∧ a < 12) (Q : Option MV → Hp → Prop) : Wc 80 [.inr (0, 23), .inl a] (hr S al 30 f) Q = Q (some (.inl (toV (S (nw S)) a))) (hr S al 30 f) := by
  rw [c_count (by unfold tdR; omega) Q]
  unfold ccV
  rw [if_neg (by omega), if_neg (by omega), if_neg (by omega), if_neg (by omega), if_neg (by omega)]
  have hG2 := al_GM (al := al) (f := f) hG
  rw [Q_total hG2.1.1.1 (fun _ => 0) a (by omega), Q_total hG.1.1.1 (fun _ => 0) a (by omega)]
set_option maxHeartbeats 4000000 in
set_option maxRecDepth 100000 in
theorem r_count2 {f : Int → Int} {a : Int} (ha : 14 ≤ a ∧ a < 17) (Q : Option MV → Hp → Prop) : Wc 80 [.inr (0, 23), .inl a] (hr S al 30 f) Q = Q (some (.inl (S (nw S) 1 (a - 14)))) (hr S al 30 f) := by
  rw [c_count (by unfold tdR; omega) Q]
  unfold ccV
  rw [if_neg (by omega), if_neg (by omega), al_nw.1, al_nw.2.2 (nw S) 1 (by decide)]
  rcases (show a = 14 ∨ a = 15 ∨ a = 16 by omega) with rfl | rfl | rfl <;> rfl
set_option maxHeartbeats 4000000 in
set_option maxRecDepth 100000 in
theorem r_window (hG : GM (S (nw S)) M) {f : Int → Int} {w a : Int} (hw : 0 ≤ w ∧ w < 3) (ha : 0 ≤ a ∧ a < 10) (Q : Option MV → Hp → Prop) : Wc 79 [.inr (0, 23), .inl w, .inl a] (hr S al 30 f) Q = Q (some (.inl (if a = 5 then mkV (S (nw S)) w else wtV (S (nw S)) w a))) (hr S al 30 f) := by
  have hG2 := al_GM (al := al) (f := f) hG
  rw [c_windowOf hG2.1.1.1.1.2.1 (RR_o12 hG2.1.1.1) (by unfold tdR; omega) (by unfold tdR; omega) Q, Q_window hG2.1.1.1]
  have q := Q_window hG.1.1.1 w a
  rw [if_pos hw] at q
  rw [q]
set_option maxHeartbeats 4000000 in
set_option maxRecDepth 100000 in
theorem r_draw (hG : GM (S (nw S)) M) {f : Int → Int} {d a : Int} (hd : 0 ≤ d ∧ d < 6) (ha : 0 ≤ a ∧ a < 8) (Q : Option MV → Hp → Prop) : Wc 78 [.inr (0, 23), .inl d, .inl a] (hr S al 30 f) Q = Q (some (.inl (dtV (S (nw S)) d a))) (hr S al 30 f) := by
  have hG2 := al_GM (al := al) (f := f) hG
  rw [c_drawOf (RD_Wn hG2.1.1.1.2.1) (RD_Wg hG2.1.1.1.2.1) (by unfold tdR; omega) (by unfold tdR; omega) Q, Q_draw hG2.1.1.1]
  have q := Q_draw hG.1.1.1 d a
  rw [if_pos hd] at q
  rw [q]
set_option maxHeartbeats 4000000 in
set_option maxRecDepth 100000 in
theorem r_paid1 (hG : GM (S (nw S)) M) {f : Int → Int} (Q : Option MV → Hp → Prop) : Wc 81 [.inr (0, 23), .inl 1] (hr S al 30 f) Q = Q (some (.inl (ctS (S (nw S))))) (hr S al 30 f) := by
  have hG2 := al_GM (al := al) (f := f) hG
  rw [c_paid (Or.inr rfl) hG2.1.1.1.1.2.1 (RD_Wn hG2.1.1.1.2.1) Q, if_neg (by decide), (Q_paid hG2.1.1.1).2, (Q_paid hG.1.1.1).2]
set_option maxHeartbeats 4000000 in
set_option maxRecDepth 100000 in
theorem r_short (hG : GM (S (nw S)) M) {f : Int → Int} (Q : Option MV → Hp → Prop) : Wc 85 [.inr (0, 23)] (hr S al 30 f) Q = Q (some (.inl (shO (S (nw S))))) (hr S al 30 f) := by
  have hG2 := al_GM (al := al) (f := f) hG
  rw [c_shortest (RR_o12 hG2.1.1.1) Q, Q_short hG2.1.1.1, Q_short hG.1.1.1]
/- the first numbers -/
set_option maxHeartbeats 4000000 in
set_option maxRecDepth 100000 in
theorem t1_step (hG : GM (S (nw S)) M) {row : Int → Int} {z : Int} {y : Option MV} {Q : Option MV → Hp → Prop} (hz : 0 ≤ z ∧ z < 12) (h : Wp 98 7 [some (.inr (0, 23)), some (.inr (al, 30)), some (.inl (z + 1)), y] [] (hr S al 30 (up row z (toV (S (nw S)) z))) Q) : Wp 98 7 [some (.inr (0, 23)), some (.inr (al, 30)), some (.inl z), y] [] (hr S al 30 row) Q := by
  have r := fun Q => r_count (al := al) (f := row) hG hz Q
  refine vg_cut (fun m pc => (m == 98 && pc == 7)) (fun m => m == 98) 40 _ _ _ _ _ _ ?_
  repeat' first | (with_reducible refine vT ?_ ?_; · omega) | (with_reducible refine vF ?_ ?_; · omega) | (with_reducible refine vI (fun _ => ?_) (fun _ => ?_)) | (simp (config := {maxSteps := 1000000}) (disch := (first | assumption | omega | (rw [hr_at]; assumption) | (rw [hr_at]; omega))) only [f_L_tell, wg_0, wg_s, wK_none, wK_N, wK_C, wK_R, wQ_some, wQ_none, stR, mZ, mC, stI, ini, mL, gI, gA, sI, sA, bi, gF, pF, kF, kT, kL, c2, mT, mR, f4, tsw, lsw, tgt, inR, Nat.reduceLT, Nat.reduceLeDiff, Nat.reduceEqDiff, Nat.reduceAdd, Nat.reduceSub, ↓reduceIte, Bool.false_eq_true, List.map_cons, List.map_nil, List.length_cons, List.length_nil, List.replicate, List.cons_append, List.nil_append, List.getElem?_cons_zero, List.getElem?_cons_succ, List.set, List.take_succ_cons, List.take_zero, List.drop_succ_cons, List.drop_zero, List.reverse_cons, List.reverse_nil, Int.reduceLE, Int.reduceLT, Int.reduceNeg, Int.reduceToNat, true_and, and_true, and_self, beq_iff_eq, Bool.and_eq_true, Bool.or_eq_true, or_false, false_or, or_true, true_or, and_false, false_and, hu_hr, hr_hr, hr_at, hr_nc, not_false_eq_true, Int.reduceEq, Int.pow_zero, Int.reducePow, Int.reduceMul, Int.reduceAdd, Int.reduceDiv, Int.reduceMod, Int.zero_add, Int.add_zero, Int.mul_one, Int.cast_ofNat_Int, r])
  exact h
set_option maxHeartbeats 4000000 in
set_option maxRecDepth 100000 in
theorem t1_end {row : Int → Int} {y : Option MV} {Q : Option MV → Hp → Prop} (h : Wp 98 29 [some (.inr (0, 23)), some (.inr (al, 30)), some (.inl 0), y] [] (hr S al 30 row) Q) : Wp 98 7 [some (.inr (0, 23)), some (.inr (al, 30)), some (.inl 12), y] [] (hr S al 30 row) Q := by
  refine vg_cut (fun m pc => (m == 98 && pc == 7) || (m == 98 && pc == 29)) (fun m => m == 98) 40 _ _ _ _ _ _ ?_
  repeat' first | (with_reducible refine vT ?_ ?_; · omega) | (with_reducible refine vF ?_ ?_; · omega) | (with_reducible refine vI (fun _ => ?_) (fun _ => ?_)) | (simp (config := {maxSteps := 1000000}) (disch := (first | assumption | omega | (rw [hr_at]; assumption) | (rw [hr_at]; omega))) only [f_L_tell, wg_0, wg_s, wK_none, wK_N, wK_C, wK_R, wQ_some, wQ_none, stR, mZ, mC, stI, ini, mL, gI, gA, sI, sA, bi, gF, pF, kF, kT, kL, c2, mT, mR, f4, tsw, lsw, tgt, inR, Nat.reduceLT, Nat.reduceLeDiff, Nat.reduceEqDiff, Nat.reduceAdd, Nat.reduceSub, ↓reduceIte, Bool.false_eq_true, List.map_cons, List.map_nil, List.length_cons, List.length_nil, List.replicate, List.cons_append, List.nil_append, List.getElem?_cons_zero, List.getElem?_cons_succ, List.set, List.take_succ_cons, List.take_zero, List.drop_succ_cons, List.drop_zero, List.reverse_cons, List.reverse_nil, Int.reduceLE, Int.reduceLT, Int.reduceNeg, Int.reduceToNat, true_and, and_true, and_self, beq_iff_eq, Bool.and_eq_true, Bool.or_eq_true, or_false, false_or, or_true, true_or, and_false, false_and, hu_hr, hr_hr, hr_at, hr_nc, not_false_eq_true, Int.reduceEq, Int.pow_zero, Int.reducePow, Int.reduceMul, Int.reduceAdd, Int.reduceDiv, Int.reduceMod, Int.zero_add, Int.add_zero, Int.mul_one, Int.cast_ofNat_Int])
  exact h
/- settings and windows -/
set_option maxHeartbeats 4000000 in
set_option maxRecDepth 100000 in
theorem t2_head {row : Int → Int} {z : Int} {y : Option MV} {Q : Option MV → Hp → Prop} (hz : 0 ≤ z ∧ z < 3) (h : Wp 98 50 [some (.inr (0, 23)), some (.inr (al, 30)), some (.inl z), some (.inl 0)] [] (hr S al 30 (up row (12 + z) (S (nw S) 1 z))) Q) : Wp 98 29 [some (.inr (0, 23)), some (.inr (al, 30)), some (.inl z), y] [] (hr S al 30 row) Q := by
  have r := fun Q => r_count2 (S := S) (al := al) (f := row) (a := 14 + z) (by omega) Q
  have e : 14 + z - 14 = z := by omega
  rw [e] at r
  refine vg_cut (fun m pc => (m == 98 && pc == 29) || (m == 98 && pc == 50)) (fun m => m == 98) 40 _ _ _ _ _ _ ?_
  repeat' first | (with_reducible refine vT ?_ ?_; · omega) | (with_reducible refine vF ?_ ?_; · omega) | (with_reducible refine vI (fun _ => ?_) (fun _ => ?_)) | (simp (config := {maxSteps := 1000000}) (disch := (first | assumption | omega | (rw [hr_at]; assumption) | (rw [hr_at]; omega))) only [f_L_tell, wg_0, wg_s, wK_none, wK_N, wK_C, wK_R, wQ_some, wQ_none, stR, mZ, mC, stI, ini, mL, gI, gA, sI, sA, bi, gF, pF, kF, kT, kL, c2, mT, mR, f4, tsw, lsw, tgt, inR, Nat.reduceLT, Nat.reduceLeDiff, Nat.reduceEqDiff, Nat.reduceAdd, Nat.reduceSub, ↓reduceIte, Bool.false_eq_true, List.map_cons, List.map_nil, List.length_cons, List.length_nil, List.replicate, List.cons_append, List.nil_append, List.getElem?_cons_zero, List.getElem?_cons_succ, List.set, List.take_succ_cons, List.take_zero, List.drop_succ_cons, List.drop_zero, List.reverse_cons, List.reverse_nil, Int.reduceLE, Int.reduceLT, Int.reduceNeg, Int.reduceToNat, true_and, and_true, and_self, beq_iff_eq, Bool.and_eq_true, Bool.or_eq_true, or_false, false_or, or_true, true_or, and_false, false_and, hu_hr, hr_hr, hr_at, hr_nc, not_false_eq_true, Int.reduceEq, Int.pow_zero, Int.reducePow, Int.reduceMul, Int.reduceAdd, Int.reduceDiv, Int.reduceMod, Int.zero_add, Int.add_zero, Int.mul_one, Int.cast_ofNat_Int, r])
  exact h
set_option maxHeartbeats 4000000 in
set_option maxRecDepth 100000 in
theorem t2_in (hG : GM (S (nw S)) M) {row : Int → Int} {z a : Int} {Q : Option MV → Hp → Prop} (hz : 0 ≤ z ∧ z < 3) (ha : 0 ≤ a ∧ a < 10) (h : Wp 98 50 [some (.inr (0, 23)), some (.inr (al, 30)), some (.inl z), some (.inl (a + 1))] [] (hr S al 30 (up row (15 + 10 * z + a) (if a = 5 then mkV (S (nw S)) z else wtV (S (nw S)) z a))) Q) : Wp 98 50 [some (.inr (0, 23)), some (.inr (al, 30)), some (.inl z), some (.inl a)] [] (hr S al 30 row) Q := by
  have r := fun Q => r_window (al := al) (f := row) hG hz ha Q
  refine vg_cut (fun m pc => (m == 98 && pc == 50)) (fun m => m == 98) 40 _ _ _ _ _ _ ?_
  repeat' first | (with_reducible refine vT ?_ ?_; · omega) | (with_reducible refine vF ?_ ?_; · omega) | (with_reducible refine vI (fun _ => ?_) (fun _ => ?_)) | (simp (config := {maxSteps := 1000000}) (disch := (first | assumption | omega | (rw [hr_at]; assumption) | (rw [hr_at]; omega))) only [f_L_tell, wg_0, wg_s, wK_none, wK_N, wK_C, wK_R, wQ_some, wQ_none, stR, mZ, mC, stI, ini, mL, gI, gA, sI, sA, bi, gF, pF, kF, kT, kL, c2, mT, mR, f4, tsw, lsw, tgt, inR, Nat.reduceLT, Nat.reduceLeDiff, Nat.reduceEqDiff, Nat.reduceAdd, Nat.reduceSub, ↓reduceIte, Bool.false_eq_true, List.map_cons, List.map_nil, List.length_cons, List.length_nil, List.replicate, List.cons_append, List.nil_append, List.getElem?_cons_zero, List.getElem?_cons_succ, List.set, List.take_succ_cons, List.take_zero, List.drop_succ_cons, List.drop_zero, List.reverse_cons, List.reverse_nil, Int.reduceLE, Int.reduceLT, Int.reduceNeg, Int.reduceToNat, true_and, and_true, and_self, beq_iff_eq, Bool.and_eq_true, Bool.or_eq_true, or_false, false_or, or_true, true_or, and_false, false_and, hu_hr, hr_hr, hr_at, hr_nc, not_false_eq_true, Int.reduceEq, Int.pow_zero, Int.reducePow, Int.reduceMul, Int.reduceAdd, Int.reduceDiv, Int.reduceMod, Int.zero_add, Int.add_zero, Int.mul_one, Int.cast_ofNat_Int, r])
  exact h
set_option maxHeartbeats 4000000 in
set_option maxRecDepth 100000 in
theorem t2_next {row : Int → Int} {z : Int} {Q : Option MV → Hp → Prop} (h : ∀ y : Option MV, Wp 98 29 [some (.inr (0, 23)), some (.inr (al, 30)), some (.inl (z + 1)), y] [] (hr S al 30 row) Q) : Wp 98 50 [some (.inr (0, 23)), some (.inr (al, 30)), some (.inl z), some (.inl 10)] [] (hr S al 30 row) Q := by
  refine vg_cut (fun m pc => (m == 98 && pc == 29) || (m == 98 && pc == 50)) (fun m => m == 98) 40 _ _ _ _ _ _ ?_
  repeat' first | (with_reducible refine vT ?_ ?_; · omega) | (with_reducible refine vF ?_ ?_; · omega) | (with_reducible refine vI (fun _ => ?_) (fun _ => ?_)) | (simp (config := {maxSteps := 1000000}) (disch := (first | assumption | omega | (rw [hr_at]; assumption) | (rw [hr_at]; omega))) only [f_L_tell, wg_0, wg_s, wK_none, wK_N, wK_C, wK_R, wQ_some, wQ_none, stR, mZ, mC, stI, ini, mL, gI, gA, sI, sA, bi, gF, pF, kF, kT, kL, c2, mT, mR, f4, tsw, lsw, tgt, inR, Nat.reduceLT, Nat.reduceLeDiff, Nat.reduceEqDiff, Nat.reduceAdd, Nat.reduceSub, ↓reduceIte, Bool.false_eq_true, List.map_cons, List.map_nil, List.length_cons, List.length_nil, List.replicate, List.cons_append, List.nil_append, List.getElem?_cons_zero, List.getElem?_cons_succ, List.set, List.take_succ_cons, List.take_zero, List.drop_succ_cons, List.drop_zero, List.reverse_cons, List.reverse_nil, Int.reduceLE, Int.reduceLT, Int.reduceNeg, Int.reduceToNat, true_and, and_true, and_self, beq_iff_eq, Bool.and_eq_true, Bool.or_eq_true, or_false, false_or, or_true, true_or, and_false, false_and, hu_hr, hr_hr, hr_at, hr_nc, not_false_eq_true, Int.reduceEq, Int.pow_zero, Int.reducePow, Int.reduceMul, Int.reduceAdd, Int.reduceDiv, Int.reduceMod, Int.zero_add, Int.add_zero, Int.mul_one, Int.cast_ofNat_Int])
  exact h _
set_option maxHeartbeats 4000000 in
set_option maxRecDepth 100000 in
theorem t2_end {row : Int → Int} {y : Option MV} {Q : Option MV → Hp → Prop} (h : Wp 98 87 [some (.inr (0, 23)), some (.inr (al, 30)), some (.inl 0), y] [] (hr S al 30 row) Q) : Wp 98 29 [some (.inr (0, 23)), some (.inr (al, 30)), some (.inl 3), y] [] (hr S al 30 row) Q := by
  refine vg_cut (fun m pc => (m == 98 && pc == 29) || (m == 98 && pc == 87)) (fun m => m == 98) 40 _ _ _ _ _ _ ?_
  repeat' first | (with_reducible refine vT ?_ ?_; · omega) | (with_reducible refine vF ?_ ?_; · omega) | (with_reducible refine vI (fun _ => ?_) (fun _ => ?_)) | (simp (config := {maxSteps := 1000000}) (disch := (first | assumption | omega | (rw [hr_at]; assumption) | (rw [hr_at]; omega))) only [f_L_tell, wg_0, wg_s, wK_none, wK_N, wK_C, wK_R, wQ_some, wQ_none, stR, mZ, mC, stI, ini, mL, gI, gA, sI, sA, bi, gF, pF, kF, kT, kL, c2, mT, mR, f4, tsw, lsw, tgt, inR, Nat.reduceLT, Nat.reduceLeDiff, Nat.reduceEqDiff, Nat.reduceAdd, Nat.reduceSub, ↓reduceIte, Bool.false_eq_true, List.map_cons, List.map_nil, List.length_cons, List.length_nil, List.replicate, List.cons_append, List.nil_append, List.getElem?_cons_zero, List.getElem?_cons_succ, List.set, List.take_succ_cons, List.take_zero, List.drop_succ_cons, List.drop_zero, List.reverse_cons, List.reverse_nil, Int.reduceLE, Int.reduceLT, Int.reduceNeg, Int.reduceToNat, true_and, and_true, and_self, beq_iff_eq, Bool.and_eq_true, Bool.or_eq_true, or_false, false_or, or_true, true_or, and_false, false_and, hu_hr, hr_hr, hr_at, hr_nc, not_false_eq_true, Int.reduceEq, Int.pow_zero, Int.reducePow, Int.reduceMul, Int.reduceAdd, Int.reduceDiv, Int.reduceMod, Int.zero_add, Int.add_zero, Int.mul_one, Int.cast_ofNat_Int])
  exact h
/- draws -/
set_option maxHeartbeats 4000000 in
set_option maxRecDepth 100000 in
theorem t3_step (hG : GM (S (nw S)) M) {row : Int → Int} {z : Int} {y : Option MV} {Q : Option MV → Hp → Prop} (hz : 0 ≤ z ∧ z < 6) (h : Wp 98 87 [some (.inr (0, 23)), some (.inr (al, 30)), some (.inl (z + 1)), y] [] (hr S al 30 (up (up row (45 + 2 * z) (1000 * dtV (S (nw S)) z 1 + dtV (S (nw S)) z 7)) (46 + 2 * z) (dtV (S (nw S)) z 3))) Q) : Wp 98 87 [some (.inr (0, 23)), some (.inr (al, 30)), some (.inl z), y] [] (hr S al 30 row) Q := by
  have r := fun f Q => r_draw (al := al) (f := f) (d := z) (a := 1) hG hz (by omega) Q
  have r7 := fun f Q => r_draw (al := al) (f := f) (d := z) (a := 7) hG hz (by omega) Q
  have r3 := fun f Q => r_draw (al := al) (f := f) (d := z) (a := 3) hG hz (by omega) Q
  refine vg_cut (fun m pc => (m == 98 && pc == 87)) (fun m => m == 98) 60 _ _ _ _ _ _ ?_
  repeat' first | (with_reducible refine vT ?_ ?_; · omega) | (with_reducible refine vF ?_ ?_; · omega) | (with_reducible refine vI (fun _ => ?_) (fun _ => ?_)) | (simp (config := {maxSteps := 1000000}) (disch := (first | assumption | omega | (rw [hr_at]; assumption) | (rw [hr_at]; omega))) only [f_L_tell, wg_0, wg_s, wK_none, wK_N, wK_C, wK_R, wQ_some, wQ_none, stR, mZ, mC, stI, ini, mL, gI, gA, sI, sA, bi, gF, pF, kF, kT, kL, c2, mT, mR, f4, tsw, lsw, tgt, inR, Nat.reduceLT, Nat.reduceLeDiff, Nat.reduceEqDiff, Nat.reduceAdd, Nat.reduceSub, ↓reduceIte, Bool.false_eq_true, List.map_cons, List.map_nil, List.length_cons, List.length_nil, List.replicate, List.cons_append, List.nil_append, List.getElem?_cons_zero, List.getElem?_cons_succ, List.set, List.take_succ_cons, List.take_zero, List.drop_succ_cons, List.drop_zero, List.reverse_cons, List.reverse_nil, Int.reduceLE, Int.reduceLT, Int.reduceNeg, Int.reduceToNat, true_and, and_true, and_self, beq_iff_eq, Bool.and_eq_true, Bool.or_eq_true, or_false, false_or, or_true, true_or, and_false, false_and, hu_hr, hr_hr, hr_at, hr_nc, not_false_eq_true, Int.reduceEq, Int.pow_zero, Int.reducePow, Int.reduceMul, Int.reduceAdd, Int.reduceDiv, Int.reduceMod, Int.zero_add, Int.add_zero, Int.mul_one, Int.cast_ofNat_Int, r, r7, r3])
  exact h
set_option maxHeartbeats 4000000 in
set_option maxRecDepth 100000 in
theorem t3_end (hG : GM (S (nw S)) M) {row : Int → Int} {y : Option MV} {Q : Option MV → Hp → Prop} (h : Q (some (.inr (al, 30))) (hr S al 30 (up (up row 57 (ctS (S (nw S)))) 58 (shO (S (nw S)))))) : Wp 98 87 [some (.inr (0, 23)), some (.inr (al, 30)), some (.inl 6), y] [] (hr S al 30 row) Q := by
  have r := fun f Q => r_paid1 (al := al) (f := f) hG Q
  have r2 := fun f Q => r_short (al := al) (f := f) hG Q
  refine vg_cut (fun m pc => (m == 98 && pc == 87)) (fun m => m == 98) 60 _ _ _ _ _ _ ?_
  repeat' first | (with_reducible refine vT ?_ ?_; · omega) | (with_reducible refine vF ?_ ?_; · omega) | (with_reducible refine vI (fun _ => ?_) (fun _ => ?_)) | (simp (config := {maxSteps := 1000000}) (disch := (first | assumption | omega | (rw [hr_at]; assumption) | (rw [hr_at]; omega))) only [f_L_tell, wg_0, wg_s, wK_none, wK_N, wK_C, wK_R, wQ_some, wQ_none, stR, mZ, mC, stI, ini, mL, gI, gA, sI, sA, bi, gF, pF, kF, kT, kL, c2, mT, mR, f4, tsw, lsw, tgt, inR, Nat.reduceLT, Nat.reduceLeDiff, Nat.reduceEqDiff, Nat.reduceAdd, Nat.reduceSub, ↓reduceIte, Bool.false_eq_true, List.map_cons, List.map_nil, List.length_cons, List.length_nil, List.replicate, List.cons_append, List.nil_append, List.getElem?_cons_zero, List.getElem?_cons_succ, List.set, List.take_succ_cons, List.take_zero, List.drop_succ_cons, List.drop_zero, List.reverse_cons, List.reverse_nil, Int.reduceLE, Int.reduceLT, Int.reduceNeg, Int.reduceToNat, true_and, and_true, and_self, beq_iff_eq, Bool.and_eq_true, Bool.or_eq_true, or_false, false_or, or_true, true_or, and_false, false_and, hu_hr, hr_hr, hr_at, hr_nc, not_false_eq_true, Int.reduceEq, Int.pow_zero, Int.reducePow, Int.reduceMul, Int.reduceAdd, Int.reduceDiv, Int.reduceMod, Int.zero_add, Int.add_zero, Int.mul_one, Int.cast_ofNat_Int, r, r2])
  exact h
end TELL
