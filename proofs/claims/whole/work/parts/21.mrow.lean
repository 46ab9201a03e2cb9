/-! THE REFERENCE's row: bits, sold, classes, prizes -/
/- ticket flags are bytes -/
def FlB (M : Int → Int) : Prop := ∀ t : Int, 0 ≤ t → t < 600 → 0 ≤ M (833 + t) ∧ M (833 + t) < 256
/- a flag of a ticket, 0 or 1 -/
def qb (M : Int → Int) (t : Int) (f : Nat) : Int := M (833 + t) / 2 ^ f % 2
set_option maxHeartbeats 4000000 in
set_option maxRecDepth 100000 in
theorem qb_01 (M : Int → Int) (t : Int) (f : Nat) : qb M t f = 0 ∨ qb M t f = 1 := by
  unfold qb
  omega
set_option maxHeartbeats 4000000 in
set_option maxRecDepth 100000 in
theorem m_is {S : Hp} {t f : Int} (hF : FlB (S 0 31)) (ht : 0 ≤ t ∧ t < 600) (hf : 0 ≤ f ∧ f < 8) (Q : Option MV → Hp → Prop) : Wc 115 [.inr (0, 30), .inl t, .inl f] S Q = Q (some (.inl (qb (S 0 31) t f.toNat))) S := by
  refine Wc_eq ?_ Q
  have h1 := hF t ht.1 ht.2
  have h2 : (1 : Int) ≤ 2 ^ f.toNat := Int.pow_pos (by decide)
  have h3 : 0 ≤ S 0 31 (833 + t) / 2 ^ f.toNat := Int.ediv_nonneg h1.1 (by omega)
  have h4 : S 0 31 (833 + t) / 2 ^ f.toNat < 2147483648 := by
    have := Int.ediv_le_self (b := 2 ^ f.toNat) h1.1
    omega
  unfold Wc
  have e1 := and1 h3 h4
  have e2 : qb (S 0 31) t f.toNat = S 0 31 (833 + t) / 2 ^ f.toNat % 2 := rfl
  refine vg_sound (fun _ _ => false) (fun m => m == 115) 40 _ _ _ _ _ _ ?_
  repeat' first | (with_reducible refine vT ?_ ?_; · omega) | (with_reducible refine vF ?_ ?_; · omega) | (with_reducible refine vI (fun _ => ?_) (fun _ => ?_)) | (simp (config := {maxSteps := 1000000}) only [f_X8_is, wg_0, wg_s, wK_none, wK_N, wK_C, wK_R, wQ_some, wQ_none, stR, mZ, mC, stI, ini, mL, gI, gA, sI, sA, bi, gF, pF, kF, kT, kL, c2, mT, mR, f4, tsw, lsw, tgt, inR, Nat.reduceLT, Nat.reduceLeDiff, Nat.reduceEqDiff, Nat.reduceAdd, Nat.reduceSub, ↓reduceIte, Bool.false_eq_true, List.map_cons, List.map_nil, List.length_cons, List.length_nil, List.replicate, List.cons_append, List.nil_append, List.getElem?_cons_zero, List.getElem?_cons_succ, List.set, List.take_succ_cons, List.take_zero, List.drop_succ_cons, List.drop_zero, List.reverse_cons, List.reverse_nil, Int.reduceLE, Int.reduceLT, Int.reduceNeg, Int.reduceToNat, true_and, and_true, and_self, beq_iff_eq, Bool.and_eq_true, Bool.or_eq_true, or_false, false_or, or_true, true_or, and_false, false_and, hu_hr, hr_hr, hr_at, hr_nc, not_false_eq_true, Int.reduceEq, Int.pow_zero, Int.reducePow, Int.reduceMul, Int.reduceAdd, Int.reduceDiv, Int.reduceMod, Int.zero_add, Int.add_zero, Int.mul_one])
  all_goals (first | omega | trivial | (simp only [Option.some.injEq, Sum.inl.injEq]; omega) | (simp only [Option.some.injEq, Sum.inl.injEq, and_true, true_and]; omega))
def sdC (M : Int → Int) (d : Int) : Int := sm (fun k => qb M (100 * d + k) 0) 100
def clN (i w : Int) : Int := if i = w then 1 else if i / 10 = w / 10 then 2 else if i % 10 = w % 10 then 3 else 0
def clM (M : Int → Int) (t : Int) : Int := if qb M t 0 = 1 then (if M (53 + 2 * (t / 100)) = 1 then clN (t % 100) (M (53 + 2 * (t / 100) + 1)) else 0) else 0
def ofC (M : Int → Int) (d c : Int) : Int := ct (fun k => clM M (100 * d + k) == c) 100
def shr (c : Int) : Int := if c = 1 then 40 else if c = 2 then 30 else 20
def przM (M : Int → Int) (t : Int) : Int := if clM M t = 0 then 0 else 10 * sdC M (t / 100) * shr (clM M t) / 100 / ofC M (t / 100) (clM M t)
def DrW (M : Int → Int) : Prop := ∀ d : Int, 0 ≤ d → d < 6 → (M (53 + 2 * d) = 0 ∨ M (53 + 2 * d) = 1) ∧ 0 ≤ M (53 + 2 * d + 1) ∧ M (53 + 2 * d + 1) < 100
set_option maxHeartbeats 4000000 in
set_option maxRecDepth 100000 in
theorem m_isDrawn {S : Hp} {d : Int} (hW : DrW (S 0 31)) (hd : 0 ≤ d ∧ d < 6) (Q : Option MV → Hp → Prop) : Wc 121 [.inr (0, 30), .inl d] S Q = Q (some (.inl (S 0 31 (53 + 2 * d)))) S := by
  refine Wc_eq ?_ Q
  unfold Wc
  have h := (hW d hd.1 hd.2).1
  refine vg_sound (fun _ _ => false) (fun m => m == 121) 40 _ _ _ _ _ _ ?_
  repeat' first | (with_reducible refine vT ?_ ?_; · omega) | (with_reducible refine vF ?_ ?_; · omega) | (with_reducible refine vI (fun _ => ?_) (fun _ => ?_)) | (simp (config := {maxSteps := 1000000}) only [f_X8_isDrawn, wg_0, wg_s, wK_none, wK_N, wK_C, wK_R, wQ_some, wQ_none, stR, mZ, mC, stI, ini, mL, gI, gA, sI, sA, bi, gF, pF, kF, kT, kL, c2, mT, mR, f4, tsw, lsw, tgt, inR, Nat.reduceLT, Nat.reduceLeDiff, Nat.reduceEqDiff, Nat.reduceAdd, Nat.reduceSub, ↓reduceIte, Bool.false_eq_true, List.map_cons, List.map_nil, List.length_cons, List.length_nil, List.replicate, List.cons_append, List.nil_append, List.getElem?_cons_zero, List.getElem?_cons_succ, List.set, List.take_succ_cons, List.take_zero, List.drop_succ_cons, List.drop_zero, List.reverse_cons, List.reverse_nil, Int.reduceLE, Int.reduceLT, Int.reduceNeg, Int.reduceToNat, true_and, and_true, and_self, beq_iff_eq, Bool.and_eq_true, Bool.or_eq_true, or_false, false_or, or_true, true_or, and_false, false_and, hu_hr, hr_hr, hr_at, hr_nc, not_false_eq_true, Int.reduceEq, Int.pow_zero, Int.reducePow, Int.reduceMul, Int.reduceAdd, Int.reduceDiv, Int.reduceMod, Int.zero_add, Int.add_zero, Int.mul_one])
  all_goals (first | omega | trivial | (simp only [Option.some.injEq, Sum.inl.injEq]; omega) | (simp only [Option.some.injEq, Sum.inl.injEq, and_true, true_and]; omega))
set_option maxHeartbeats 4000000 in
set_option maxRecDepth 100000 in
theorem m_winning {S : Hp} {d : Int} (hd : 0 ≤ d ∧ d < 6) (Q : Option MV → Hp → Prop) : Wc 122 [.inr (0, 30), .inl d] S Q = Q (some (.inl (S 0 31 (53 + 2 * d + 1)))) S := by
  refine Wc_eq ?_ Q
  unfold Wc
  refine vg_sound (fun _ _ => false) (fun m => m == 122) 40 _ _ _ _ _ _ ?_
  repeat' first | (with_reducible refine vT ?_ ?_; · omega) | (with_reducible refine vF ?_ ?_; · omega) | (with_reducible refine vI (fun _ => ?_) (fun _ => ?_)) | (simp (config := {maxSteps := 1000000}) only [f_X8_winning, wg_0, wg_s, wK_none, wK_N, wK_C, wK_R, wQ_some, wQ_none, stR, mZ, mC, stI, ini, mL, gI, gA, sI, sA, bi, gF, pF, kF, kT, kL, c2, mT, mR, f4, tsw, lsw, tgt, inR, Nat.reduceLT, Nat.reduceLeDiff, Nat.reduceEqDiff, Nat.reduceAdd, Nat.reduceSub, ↓reduceIte, Bool.false_eq_true, List.map_cons, List.map_nil, List.length_cons, List.length_nil, List.replicate, List.cons_append, List.nil_append, List.getElem?_cons_zero, List.getElem?_cons_succ, List.set, List.take_succ_cons, List.take_zero, List.drop_succ_cons, List.drop_zero, List.reverse_cons, List.reverse_nil, Int.reduceLE, Int.reduceLT, Int.reduceNeg, Int.reduceToNat, true_and, and_true, and_self, beq_iff_eq, Bool.and_eq_true, Bool.or_eq_true, or_false, false_or, or_true, true_or, and_false, false_and, hu_hr, hr_hr, hr_at, hr_nc, not_false_eq_true, Int.reduceEq, Int.pow_zero, Int.reducePow, Int.reduceMul, Int.reduceAdd, Int.reduceDiv, Int.reduceMod, Int.zero_add, Int.add_zero, Int.mul_one])
set_option maxHeartbeats 4000000 in
set_option maxRecDepth 100000 in
theorem sold_step {S : Hp} {d z x : Int} {Q : Option MV → Hp → Prop} (hF : FlB (S 0 31)) (hd : 0 ≤ d ∧ d < 6) (hz : 0 ≤ z ∧ z < 100) (h : Wp 123 4 [some (.inr (0, 30)), some (.inl d), some (.inl (x + qb (S 0 31) (100 * d + z) 0)), some (.inl (z + 1))] [] S Q) : Wp 123 4 [some (.inr (0, 30)), some (.inl d), some (.inl x), some (.inl z)] [] S Q := by
  have hq := qb_01 (S 0 31) (100 * d + z) 0
  refine vg_cut (fun m pc => (m == 123 && pc == 4)) (fun m => m == 123) 40 _ _ _ _ _ _ ?_
  repeat' first | (with_reducible refine vT ?_ ?_; · omega) | (with_reducible refine vF ?_ ?_; · omega) | (with_reducible refine vI (fun _ => ?_) (fun _ => ?_)) | (simp (config := {maxSteps := 1000000}) (disch := (first | assumption | omega | (rw [hr_at]; assumption) | (rw [hr_at]; omega))) only [f_X8_soldOf, wg_0, wg_s, wK_none, wK_N, wK_C, wK_R, wQ_some, wQ_none, stR, mZ, mC, stI, ini, mL, gI, gA, sI, sA, bi, gF, pF, kF, kT, kL, c2, mT, mR, f4, tsw, lsw, tgt, inR, Nat.reduceLT, Nat.reduceLeDiff, Nat.reduceEqDiff, Nat.reduceAdd, Nat.reduceSub, ↓reduceIte, Bool.false_eq_true, List.map_cons, List.map_nil, List.length_cons, List.length_nil, List.replicate, List.cons_append, List.nil_append, List.getElem?_cons_zero, List.getElem?_cons_succ, List.set, List.take_succ_cons, List.take_zero, List.drop_succ_cons, List.drop_zero, List.reverse_cons, List.reverse_nil, Int.reduceLE, Int.reduceLT, Int.reduceNeg, Int.reduceToNat, true_and, and_true, and_self, beq_iff_eq, Bool.and_eq_true, Bool.or_eq_true, or_false, false_or, or_true, true_or, and_false, false_and, hu_hr, hr_hr, hr_at, hr_nc, not_false_eq_true, Int.reduceEq, Int.pow_zero, Int.reducePow, Int.reduceMul, Int.reduceAdd, Int.reduceDiv, Int.reduceMod, Int.zero_add, Int.add_zero, Int.mul_one, m_is, hF])
  · next e => rw [e, Int.add_zero] at h; exact h
  · rw [show qb (S 0 31) (100 * d + z) 0 = 1 by omega] at h; exact h
set_option maxHeartbeats 4000000 in
set_option maxRecDepth 100000 in
theorem sold_end {S : Hp} {d x : Int} {Q : Option MV → Hp → Prop} (h : Q (some (.inl x)) S) : Wp 123 4 [some (.inr (0, 30)), some (.inl d), some (.inl x), some (.inl 100)] [] S Q := by
  refine vg_cut (fun m pc => (m == 123 && pc == 4)) (fun m => m == 123) 40 _ _ _ _ _ _ ?_
  repeat' first | (with_reducible refine vT ?_ ?_; · omega) | (with_reducible refine vF ?_ ?_; · omega) | (with_reducible refine vI (fun _ => ?_) (fun _ => ?_)) | (simp (config := {maxSteps := 1000000}) only [f_X8_soldOf, wg_0, wg_s, wK_none, wK_N, wK_C, wK_R, wQ_some, wQ_none, stR, mZ, mC, stI, ini, mL, gI, gA, sI, sA, bi, gF, pF, kF, kT, kL, c2, mT, mR, f4, tsw, lsw, tgt, inR, Nat.reduceLT, Nat.reduceLeDiff, Nat.reduceEqDiff, Nat.reduceAdd, Nat.reduceSub, ↓reduceIte, Bool.false_eq_true, List.map_cons, List.map_nil, List.length_cons, List.length_nil, List.replicate, List.cons_append, List.nil_append, List.getElem?_cons_zero, List.getElem?_cons_succ, List.set, List.take_succ_cons, List.take_zero, List.drop_succ_cons, List.drop_zero, List.reverse_cons, List.reverse_nil, Int.reduceLE, Int.reduceLT, Int.reduceNeg, Int.reduceToNat, true_and, and_true, and_self, beq_iff_eq, Bool.and_eq_true, Bool.or_eq_true, or_false, false_or, or_true, true_or, and_false, false_and, hu_hr, hr_hr, hr_at, hr_nc, not_false_eq_true, Int.reduceEq, Int.pow_zero, Int.reducePow, Int.reduceMul, Int.reduceAdd, Int.reduceDiv, Int.reduceMod, Int.zero_add, Int.add_zero, Int.mul_one])
  exact h
set_option maxHeartbeats 4000000 in
set_option maxRecDepth 100000 in
theorem m_soldOf {S : Hp} {d : Int} (hF : FlB (S 0 31)) (hd : 0 ≤ d ∧ d < 6) (Q : Option MV → Hp → Prop) : Wc 123 [.inr (0, 30), .inl d] S Q = Q (some (.inl (sdC (S 0 31) d))) S := by
  refine Wc_eq ?_ Q
  unfold Wc
  refine vg_sound (fun m pc => (m == 123 && pc == 4)) (fun m => m == 123) 10 _ _ _ _ _ _ ?_
  repeat' first | (with_reducible refine vT ?_ ?_; · omega) | (with_reducible refine vF ?_ ?_; · omega) | (with_reducible refine vI (fun _ => ?_) (fun _ => ?_)) | (simp (config := {maxSteps := 1000000}) only [f_X8_soldOf, wg_0, wg_s, wK_none, wK_N, wK_C, wK_R, wQ_some, wQ_none, stR, mZ, mC, stI, ini, mL, gI, gA, sI, sA, bi, gF, pF, kF, kT, kL, c2, mT, mR, f4, tsw, lsw, tgt, inR, Nat.reduceLT, Nat.reduceLeDiff, Nat.reduceEqDiff, Nat.reduceAdd, Nat.reduceSub, ↓reduceIte, Bool.false_eq_true, List.map_cons, List.map_nil, List.length_cons, List.length_nil, List.replicate, List.cons_append, List.nil_append, List.getElem?_cons_zero, List.getElem?_cons_succ, List.set, List.take_succ_cons, List.take_zero, List.drop_succ_cons, List.drop_zero, List.reverse_cons, List.reverse_nil, Int.reduceLE, Int.reduceLT, Int.reduceNeg, Int.reduceToNat, true_and, and_true, and_self, beq_iff_eq, Bool.and_eq_true, Bool.or_eq_true, or_false, false_or, or_true, true_or, and_false, false_and, hu_hr, hr_hr, hr_at, hr_nc, not_false_eq_true, Int.reduceEq, Int.pow_zero, Int.reducePow, Int.reduceMul, Int.reduceAdd, Int.reduceDiv, Int.reduceMod, Int.zero_add, Int.add_zero, Int.mul_one])
  obtain ⟨N, hN⟩ : ∃ N : Nat, N = 100 := ⟨_, rfl⟩
  have hs : sdC (S 0 31) d = sm (fun k => qb (S 0 31) (100 * d + k) 0) N := by rw [hN]; rfl
  rw [hs]
  refine wp_for (fun j => [some (.inr (0, 30)), some (.inl d), some (.inl (sm (fun k => qb (S 0 31) (100 * d + k) 0) j)), some (.inl (j : Int))]) (fun _ => S) N (by simp [sm]) rfl (fun j hj h => ?_) ?_
  · refine sold_step hF hd (by omega) ?_
    rw [sm_s, Int.natCast_add] at h
    exact h
  · have e : (N : Int) = 100 := by omega
    rw [e]
    exact sold_end ⟨rfl, rfl⟩
set_option maxHeartbeats 4000000 in
set_option maxRecDepth 100000 in
theorem m_classOf {S : Hp} {t : Int} (hF : FlB (S 0 31)) (hW : DrW (S 0 31)) (ht : 0 ≤ t ∧ t < 600) (Q : Option MV → Hp → Prop) : Wc 124 [.inr (0, 30), .inl t] S Q = Q (some (.inl (clM (S 0 31) t))) S := by
  refine Wc_eq ?_ Q
  unfold Wc
  have hw := hW (t / 100) (by omega) (by omega)
  have hq := qb_01 (S 0 31) t 0
  refine vg_sound (fun _ _ => false) (fun m => m == 124) 60 _ _ _ _ _ _ ?_
  repeat' first | (with_reducible refine vT ?_ ?_; · omega) | (with_reducible refine vF ?_ ?_; · omega) | (with_reducible refine vI (fun _ => ?_) (fun _ => ?_)) | (simp (config := {maxSteps := 1000000}) (disch := (first | assumption | omega | (rw [hr_at]; assumption) | (rw [hr_at]; omega))) only [f_X8_classOf, wg_0, wg_s, wK_none, wK_N, wK_C, wK_R, wQ_some, wQ_none, stR, mZ, mC, stI, ini, mL, gI, gA, sI, sA, bi, gF, pF, kF, kT, kL, c2, mT, mR, f4, tsw, lsw, tgt, inR, Nat.reduceLT, Nat.reduceLeDiff, Nat.reduceEqDiff, Nat.reduceAdd, Nat.reduceSub, ↓reduceIte, Bool.false_eq_true, List.map_cons, List.map_nil, List.length_cons, List.length_nil, List.replicate, List.cons_append, List.nil_append, List.getElem?_cons_zero, List.getElem?_cons_succ, List.set, List.take_succ_cons, List.take_zero, List.drop_succ_cons, List.drop_zero, List.reverse_cons, List.reverse_nil, Int.reduceLE, Int.reduceLT, Int.reduceNeg, Int.reduceToNat, true_and, and_true, and_self, beq_iff_eq, Bool.and_eq_true, Bool.or_eq_true, or_false, false_or, or_true, true_or, and_false, false_and, hu_hr, hr_hr, hr_at, hr_nc, not_false_eq_true, Int.reduceEq, Int.pow_zero, Int.reducePow, Int.reduceMul, Int.reduceAdd, Int.reduceDiv, Int.reduceMod, Int.zero_add, Int.add_zero, Int.mul_one, m_is, hF, m_isDrawn, m_winning, hW])
  all_goals unfold clM clN
  all_goals (simp only [Option.some.injEq, Sum.inl.injEq])
  all_goals (repeat (first | rw [if_pos (by omega)] | rw [if_neg (by omega)]))
set_option maxHeartbeats 4000000 in
set_option maxRecDepth 100000 in
theorem clM_03 (M : Int → Int) (t : Int) : 0 ≤ clM M t ∧ clM M t ≤ 3 := by
  unfold clM clN
  repeat' split
  all_goals omega
set_option maxHeartbeats 4000000 in
set_option maxRecDepth 100000 in
theorem ofcl_step {S : Hp} {d c z x : Int} {Q : Option MV → Hp → Prop} (hF : FlB (S 0 31)) (hW : DrW (S 0 31)) (hd : 0 ≤ d ∧ d < 6) (hc : 0 ≤ c ∧ c ≤ 3) (hz : 0 ≤ z ∧ z < 100) (h : Wp 125 5 [some (.inr (0, 30)), some (.inl d), some (.inl c), some (.inl (x + if (clM (S 0 31) (100 * d + z) == c) = true then 1 else 0)), some (.inl (z + 1))] [] S Q) : Wp 125 5 [some (.inr (0, 30)), some (.inl d), some (.inl c), some (.inl x), some (.inl z)] [] S Q := by
  have hb := clM_03 (S 0 31) (100 * d + z)
  refine vg_cut (fun m pc => (m == 125 && pc == 5)) (fun m => m == 125) 40 _ _ _ _ _ _ ?_
  repeat' first | (with_reducible refine vT ?_ ?_; · omega) | (with_reducible refine vF ?_ ?_; · omega) | (with_reducible refine vI (fun _ => ?_) (fun _ => ?_)) | (simp (config := {maxSteps := 1000000}) (disch := (first | assumption | omega | (rw [hr_at]; assumption) | (rw [hr_at]; omega))) only [f_X8_ofClass, wg_0, wg_s, wK_none, wK_N, wK_C, wK_R, wQ_some, wQ_none, stR, mZ, mC, stI, ini, mL, gI, gA, sI, sA, bi, gF, pF, kF, kT, kL, c2, mT, mR, f4, tsw, lsw, tgt, inR, Nat.reduceLT, Nat.reduceLeDiff, Nat.reduceEqDiff, Nat.reduceAdd, Nat.reduceSub, ↓reduceIte, Bool.false_eq_true, List.map_cons, List.map_nil, List.length_cons, List.length_nil, List.replicate, List.cons_append, List.nil_append, List.getElem?_cons_zero, List.getElem?_cons_succ, List.set, List.take_succ_cons, List.take_zero, List.drop_succ_cons, List.drop_zero, List.reverse_cons, List.reverse_nil, Int.reduceLE, Int.reduceLT, Int.reduceNeg, Int.reduceToNat, true_and, and_true, and_self, beq_iff_eq, Bool.and_eq_true, Bool.or_eq_true, or_false, false_or, or_true, true_or, and_false, false_and, hu_hr, hr_hr, hr_at, hr_nc, not_false_eq_true, Int.reduceEq, Int.pow_zero, Int.reducePow, Int.reduceMul, Int.reduceAdd, Int.reduceDiv, Int.reduceMod, Int.zero_add, Int.add_zero, Int.mul_one, m_classOf, hF, hW])
  · next e => simpa [e] using h
  · next e => simpa [e] using h
set_option maxHeartbeats 4000000 in
set_option maxRecDepth 100000 in
theorem ofcl_end {S : Hp} {d c x : Int} {Q : Option MV → Hp → Prop} (h : Q (some (.inl x)) S) : Wp 125 5 [some (.inr (0, 30)), some (.inl d), some (.inl c), some (.inl x), some (.inl 100)] [] S Q := by
  refine vg_cut (fun m pc => (m == 125 && pc == 5)) (fun m => m == 125) 40 _ _ _ _ _ _ ?_
  repeat' first | (with_reducible refine vT ?_ ?_; · omega) | (with_reducible refine vF ?_ ?_; · omega) | (with_reducible refine vI (fun _ => ?_) (fun _ => ?_)) | (simp (config := {maxSteps := 1000000}) only [f_X8_ofClass, wg_0, wg_s, wK_none, wK_N, wK_C, wK_R, wQ_some, wQ_none, stR, mZ, mC, stI, ini, mL, gI, gA, sI, sA, bi, gF, pF, kF, kT, kL, c2, mT, mR, f4, tsw, lsw, tgt, inR, Nat.reduceLT, Nat.reduceLeDiff, Nat.reduceEqDiff, Nat.reduceAdd, Nat.reduceSub, ↓reduceIte, Bool.false_eq_true, List.map_cons, List.map_nil, List.length_cons, List.length_nil, List.replicate, List.cons_append, List.nil_append, List.getElem?_cons_zero, List.getElem?_cons_succ, List.set, List.take_succ_cons, List.take_zero, List.drop_succ_cons, List.drop_zero, List.reverse_cons, List.reverse_nil, Int.reduceLE, Int.reduceLT, Int.reduceNeg, Int.reduceToNat, true_and, and_true, and_self, beq_iff_eq, Bool.and_eq_true, Bool.or_eq_true, or_false, false_or, or_true, true_or, and_false, false_and, hu_hr, hr_hr, hr_at, hr_nc, not_false_eq_true, Int.reduceEq, Int.pow_zero, Int.reducePow, Int.reduceMul, Int.reduceAdd, Int.reduceDiv, Int.reduceMod, Int.zero_add, Int.add_zero, Int.mul_one])
  exact h
set_option maxHeartbeats 4000000 in
set_option maxRecDepth 100000 in
theorem m_ofClass {S : Hp} {d c : Int} (hF : FlB (S 0 31)) (hW : DrW (S 0 31)) (hd : 0 ≤ d ∧ d < 6) (hc : 0 ≤ c ∧ c ≤ 3) (Q : Option MV → Hp → Prop) : Wc 125 [.inr (0, 30), .inl d, .inl c] S Q = Q (some (.inl (ofC (S 0 31) d c))) S := by
  refine Wc_eq ?_ Q
  unfold Wc
  refine vg_sound (fun m pc => (m == 125 && pc == 5)) (fun m => m == 125) 10 _ _ _ _ _ _ ?_
  repeat' first | (with_reducible refine vT ?_ ?_; · omega) | (with_reducible refine vF ?_ ?_; · omega) | (with_reducible refine vI (fun _ => ?_) (fun _ => ?_)) | (simp (config := {maxSteps := 1000000}) only [f_X8_ofClass, wg_0, wg_s, wK_none, wK_N, wK_C, wK_R, wQ_some, wQ_none, stR, mZ, mC, stI, ini, mL, gI, gA, sI, sA, bi, gF, pF, kF, kT, kL, c2, mT, mR, f4, tsw, lsw, tgt, inR, Nat.reduceLT, Nat.reduceLeDiff, Nat.reduceEqDiff, Nat.reduceAdd, Nat.reduceSub, ↓reduceIte, Bool.false_eq_true, List.map_cons, List.map_nil, List.length_cons, List.length_nil, List.replicate, List.cons_append, List.nil_append, List.getElem?_cons_zero, List.getElem?_cons_succ, List.set, List.take_succ_cons, List.take_zero, List.drop_succ_cons, List.drop_zero, List.reverse_cons, List.reverse_nil, Int.reduceLE, Int.reduceLT, Int.reduceNeg, Int.reduceToNat, true_and, and_true, and_self, beq_iff_eq, Bool.and_eq_true, Bool.or_eq_true, or_false, false_or, or_true, true_or, and_false, false_and, hu_hr, hr_hr, hr_at, hr_nc, not_false_eq_true, Int.reduceEq, Int.pow_zero, Int.reducePow, Int.reduceMul, Int.reduceAdd, Int.reduceDiv, Int.reduceMod, Int.zero_add, Int.add_zero, Int.mul_one])
  obtain ⟨N, hN⟩ : ∃ N : Nat, N = 100 := ⟨_, rfl⟩
  have hs : ofC (S 0 31) d c = ct (fun k => clM (S 0 31) (100 * d + k) == c) N := by rw [hN]; rfl
  rw [hs]
  refine wp_for (fun j => [some (.inr (0, 30)), some (.inl d), some (.inl c), some (.inl (ct (fun k => clM (S 0 31) (100 * d + k) == c) j)), some (.inl (j : Int))]) (fun _ => S) N (by simp [ct]) rfl (fun j hj h => ?_) ?_
  · refine ofcl_step hF hW hd hc (by omega) ?_
    rw [ct_s, Int.natCast_add] at h
    exact h
  · have e : (N : Int) = 100 := by omega
    rw [e]
    exact ofcl_end ⟨rfl, rfl⟩
set_option maxHeartbeats 4000000 in
set_option maxRecDepth 100000 in
theorem sm_b {f : Nat → Int} {c : Int} (hc : 0 ≤ c) : ∀ (n : Nat), (∀ k, k < n → 0 ≤ f k ∧ f k ≤ c) → 0 ≤ sm f n ∧ sm f n ≤ n * c
  | 0, _ => ⟨Int.le_refl _, by simp [sm]⟩
  | n + 1, h => by
    have h1 := sm_b hc n (fun k hk => h k (by omega))
    have h2 := h n (by omega)
    rw [sm_s, Int.natCast_add, Int.add_mul]
    omega
set_option maxHeartbeats 4000000 in
set_option maxRecDepth 100000 in
theorem sdC_b (M : Int → Int) (d : Int) : 0 ≤ sdC M d ∧ sdC M d ≤ 100 := by
  have h := sm_b (f := fun k => qb M (100 * d + k) 0) (c := 1) (by omega) 100 (fun k _ => by have := qb_01 M (100 * d + k) 0; omega)
  unfold sdC
  omega
set_option maxHeartbeats 4000000 in
set_option maxRecDepth 100000 in
theorem ofC_b (M : Int → Int) (d c : Int) : 0 ≤ ofC M d c ∧ ofC M d c ≤ 100 := ct_le _ 100
set_option maxHeartbeats 4000000 in
set_option maxRecDepth 100000 in
theorem ofC_pos {M : Int → Int} {t : Int} (ht : 0 ≤ t ∧ t < 600) : 0 < ofC M (t / 100) (clM M t) := by
  refine ct_pos (i := (t % 100).toNat) (by omega) ?_
  have e : 100 * (t / 100) + ((t % 100).toNat : Int) = t := by omega
  rw [e]
  simp
set_option maxHeartbeats 4000000 in
set_option maxRecDepth 100000 in
theorem m_prize {S : Hp} {t : Int} (hF : FlB (S 0 31)) (hW : DrW (S 0 31)) (ht : 0 ≤ t ∧ t < 600) (Q : Option MV → Hp → Prop) : Wc 126 [.inr (0, 30), .inl t] S Q = Q (some (.inl (przM (S 0 31) t))) S := by
  refine Wc_eq ?_ Q
  unfold Wc
  have hb := clM_03 (S 0 31) t
  have hs := sdC_b (S 0 31) (t / 100)
  have ho := ofC_b (S 0 31) (t / 100) (clM (S 0 31) t)
  have hp := ofC_pos (M := S 0 31) ht
  refine vg_sound (fun _ _ => false) (fun m => m == 126) 80 _ _ _ _ _ _ ?_
  repeat' first | (with_reducible refine vT ?_ ?_; · omega) | (with_reducible refine vF ?_ ?_; · omega) | (with_reducible refine vI (fun _ => ?_) (fun _ => ?_)) | (simp (config := {maxSteps := 1000000}) (disch := (first | assumption | omega | (rw [hr_at]; assumption) | (rw [hr_at]; omega))) only [f_X8_prize, wg_0, wg_s, wK_none, wK_N, wK_C, wK_R, wQ_some, wQ_none, stR, mZ, mC, stI, ini, mL, gI, gA, sI, sA, bi, gF, pF, kF, kT, kL, c2, mT, mR, f4, tsw, lsw, tgt, inR, Nat.reduceLT, Nat.reduceLeDiff, Nat.reduceEqDiff, Nat.reduceAdd, Nat.reduceSub, ↓reduceIte, Bool.false_eq_true, List.map_cons, List.map_nil, List.length_cons, List.length_nil, List.replicate, List.cons_append, List.nil_append, List.getElem?_cons_zero, List.getElem?_cons_succ, List.set, List.take_succ_cons, List.take_zero, List.drop_succ_cons, List.drop_zero, List.reverse_cons, List.reverse_nil, Int.reduceLE, Int.reduceLT, Int.reduceNeg, Int.reduceToNat, true_and, and_true, and_self, beq_iff_eq, Bool.and_eq_true, Bool.or_eq_true, or_false, false_or, or_true, true_or, and_false, false_and, hu_hr, hr_hr, hr_at, hr_nc, not_false_eq_true, Int.reduceEq, Int.pow_zero, Int.reducePow, Int.reduceMul, Int.reduceAdd, Int.reduceDiv, Int.reduceMod, Int.zero_add, Int.add_zero, Int.mul_one, m_classOf, m_soldOf, m_ofClass, hF, hW])
  all_goals unfold przM shr
  all_goals (simp only [Option.some.injEq, Sum.inl.injEq])
  all_goals (repeat (first | rw [if_pos (by omega)] | rw [if_neg (by omega)]))
