/-! THE REFERENCE: the text -/
set_option maxHeartbeats 4000000 in
set_option maxRecDepth 100000 in
theorem up_ap (f : Int → Int) (i v j : Int) : up f i v j = if j = i then v else f j := rfl
/- a text and the places in it -/
def TxP (X R : Int → Int) : Prop := (0 ≤ R 5 ∧ R 5 ≤ R 7) ∧ R 7 ≤ 60 ∧ ∀ i : Int, 0 ≤ i → i < 60 → 0 ≤ X i ∧ X i < 65536
abbrev nxP (X : Int → Int) (len p a b : Int) : Prop := p < len ∧ a ≤ X p ∧ X p ≤ b
set_option maxHeartbeats 4000000 in
set_option maxRecDepth 100000 in
theorem m_isNext {S : Hp} {a b : Int} (hT : TxP (S 0 35) (S 0 30)) (ha : 0 ≤ a ∧ a < 65536) (hb : 0 ≤ b ∧ b < 65536) (Q : Option MV → Hp → Prop) : Wc 164 [.inr (0, 30), .inl a, .inl b] S Q = Q (some (.inl (if nxP (S 0 35) (S 0 30 7) (S 0 30 5) a b then 1 else 0))) S := by
  refine Wc_eq ?_ Q
  unfold Wc
  obtain ⟨h1, h2, h3⟩ := hT
  unfold nxP
  by_cases h : S 0 30 5 < S 0 30 7
  · have hx := h3 (S 0 30 5) (by omega) (by omega)
    refine vg_sound (fun _ _ => false) (fun m => m == 164 || m == 109) 40 _ _ _ _ _ _ ?_
    repeat' first | (with_reducible refine vT ?_ ?_; · omega) | (with_reducible refine vF ?_ ?_; · omega) | (with_reducible refine vI (fun _ => ?_) (fun _ => ?_)) | (simp (config := {maxSteps := 1000000}) (disch := (first | assumption | omega | (rw [hr_at]; assumption) | (rw [hr_at]; omega))) only [f_X8_isNext, f_X8_in, wg_0, wg_s, wK_none, wK_N, wK_C, wK_R, wQ_some, wQ_none, stR, mZ, mC, stI, ini, mL, gI, gA, sI, sA, bi, gF, pF, kF, kT, kL, c2, mT, mR, f4, tsw, lsw, tgt, inR, Nat.reduceLT, Nat.reduceLeDiff, Nat.reduceEqDiff, Nat.reduceAdd, Nat.reduceSub, ↓reduceIte, Bool.false_eq_true, List.map_cons, List.map_nil, List.length_cons, List.length_nil, List.replicate, List.cons_append, List.nil_append, List.getElem?_cons_zero, List.getElem?_cons_succ, List.set, List.take_succ_cons, List.take_zero, List.drop_succ_cons, List.drop_zero, List.reverse_cons, List.reverse_nil, Int.reduceLE, Int.reduceLT, Int.reduceNeg, Int.reduceToNat, true_and, and_true, and_self, beq_iff_eq, Bool.and_eq_true, Bool.or_eq_true, or_false, false_or, or_true, true_or, and_false, false_and, hu_hr, hr_hr, hr_at, hr_nc, not_false_eq_true, Int.reduceEq, Int.pow_zero, Int.reducePow, Int.reduceMul, Int.reduceAdd, Int.reduceDiv, Int.reduceMod, Int.zero_add, Int.add_zero, Int.mul_one, Int.cast_ofNat_Int])
    all_goals (repeat (first | rw [if_pos (by omega)] | rw [if_neg (by omega)]))
    all_goals (first | trivial | exact ⟨rfl, rfl⟩)
  · refine vg_sound (fun _ _ => false) (fun m => m == 164 || m == 109) 40 _ _ _ _ _ _ ?_
    repeat' first | (with_reducible refine vT ?_ ?_; · omega) | (with_reducible refine vF ?_ ?_; · omega) | (with_reducible refine vI (fun _ => ?_) (fun _ => ?_)) | (simp (config := {maxSteps := 1000000}) (disch := (first | assumption | omega | (rw [hr_at]; assumption) | (rw [hr_at]; omega))) only [f_X8_isNext, f_X8_in, wg_0, wg_s, wK_none, wK_N, wK_C, wK_R, wQ_some, wQ_none, stR, mZ, mC, stI, ini, mL, gI, gA, sI, sA, bi, gF, pF, kF, kT, kL, c2, mT, mR, f4, tsw, lsw, tgt, inR, Nat.reduceLT, Nat.reduceLeDiff, Nat.reduceEqDiff, Nat.reduceAdd, Nat.reduceSub, ↓reduceIte, Bool.false_eq_true, List.map_cons, List.map_nil, List.length_cons, List.length_nil, List.replicate, List.cons_append, List.nil_append, List.getElem?_cons_zero, List.getElem?_cons_succ, List.set, List.take_succ_cons, List.take_zero, List.drop_succ_cons, List.drop_zero, List.reverse_cons, List.reverse_nil, Int.reduceLE, Int.reduceLT, Int.reduceNeg, Int.reduceToNat, true_and, and_true, and_self, beq_iff_eq, Bool.and_eq_true, Bool.or_eq_true, or_false, false_or, or_true, true_or, and_false, false_and, hu_hr, hr_hr, hr_at, hr_nc, not_false_eq_true, Int.reduceEq, Int.pow_zero, Int.reducePow, Int.reduceMul, Int.reduceAdd, Int.reduceDiv, Int.reduceMod, Int.zero_add, Int.add_zero, Int.mul_one, Int.cast_ofNat_Int])
    all_goals (repeat (first | rw [if_pos (by omega)] | rw [if_neg (by omega)]))
    all_goals (first | trivial | exact ⟨rfl, rfl⟩)
set_option maxHeartbeats 4000000 in
set_option maxRecDepth 100000 in
theorem m_sign {S : Hp} {a : Int} (hT : TxP (S 0 35) (S 0 30)) (ha : 0 ≤ a ∧ a < 65536) (Q : Option MV → Hp → Prop) : Wc 165 [.inr (0, 30), .inl a] S Q = Q (some (.inl (if nxP (S 0 35) (S 0 30 7) (S 0 30 5) a a then 1 else 0))) (hr S 0 30 (up (S 0 30) 5 (S 0 30 5 + if nxP (S 0 35) (S 0 30 7) (S 0 30 5) a a then 1 else 0))) := by
  refine Wc_eq ?_ Q
  unfold Wc
  by_cases h : nxP (S 0 35) (S 0 30 7) (S 0 30 5) a a
  · rw [if_pos h]
    have r1 := fun Q => m_isNext (S := S) hT ha ha Q
    rw [if_pos h] at r1
    refine vg_sound (fun _ _ => false) (fun m => m == 165) 40 _ _ _ _ _ _ ?_
    repeat' first | (with_reducible refine vT ?_ ?_; · omega) | (with_reducible refine vF ?_ ?_; · omega) | (with_reducible refine vI (fun _ => ?_) (fun _ => ?_)) | (simp (config := {maxSteps := 1000000}) (disch := (first | assumption | omega | (rw [hr_at]; assumption) | (rw [hr_at]; omega))) only [f_X8_sign, wg_0, wg_s, wK_none, wK_N, wK_C, wK_R, wQ_some, wQ_none, stR, mZ, mC, stI, ini, mL, gI, gA, sI, sA, bi, gF, pF, kF, kT, kL, c2, mT, mR, f4, tsw, lsw, tgt, inR, Nat.reduceLT, Nat.reduceLeDiff, Nat.reduceEqDiff, Nat.reduceAdd, Nat.reduceSub, ↓reduceIte, Bool.false_eq_true, List.map_cons, List.map_nil, List.length_cons, List.length_nil, List.replicate, List.cons_append, List.nil_append, List.getElem?_cons_zero, List.getElem?_cons_succ, List.set, List.take_succ_cons, List.take_zero, List.drop_succ_cons, List.drop_zero, List.reverse_cons, List.reverse_nil, Int.reduceLE, Int.reduceLT, Int.reduceNeg, Int.reduceToNat, true_and, and_true, and_self, beq_iff_eq, Bool.and_eq_true, Bool.or_eq_true, or_false, false_or, or_true, true_or, and_false, false_and, hu_hr, hr_hr, hr_at, hr_nc, not_false_eq_true, Int.reduceEq, Int.pow_zero, Int.reducePow, Int.reduceMul, Int.reduceAdd, Int.reduceDiv, Int.reduceMod, Int.zero_add, Int.add_zero, Int.mul_one, Int.cast_ofNat_Int, r1])
    all_goals (first | trivial | exact ⟨rfl, rfl⟩)
  · rw [if_neg h]
    have r1 := fun Q => m_isNext (S := S) hT ha ha Q
    rw [if_neg h] at r1
    refine vg_sound (fun _ _ => false) (fun m => m == 165) 40 _ _ _ _ _ _ ?_
    repeat' first | (with_reducible refine vT ?_ ?_; · omega) | (with_reducible refine vF ?_ ?_; · omega) | (with_reducible refine vI (fun _ => ?_) (fun _ => ?_)) | (simp (config := {maxSteps := 1000000}) (disch := (first | assumption | omega | (rw [hr_at]; assumption) | (rw [hr_at]; omega))) only [f_X8_sign, wg_0, wg_s, wK_none, wK_N, wK_C, wK_R, wQ_some, wQ_none, stR, mZ, mC, stI, ini, mL, gI, gA, sI, sA, bi, gF, pF, kF, kT, kL, c2, mT, mR, f4, tsw, lsw, tgt, inR, Nat.reduceLT, Nat.reduceLeDiff, Nat.reduceEqDiff, Nat.reduceAdd, Nat.reduceSub, ↓reduceIte, Bool.false_eq_true, List.map_cons, List.map_nil, List.length_cons, List.length_nil, List.replicate, List.cons_append, List.nil_append, List.getElem?_cons_zero, List.getElem?_cons_succ, List.set, List.take_succ_cons, List.take_zero, List.drop_succ_cons, List.drop_zero, List.reverse_cons, List.reverse_nil, Int.reduceLE, Int.reduceLT, Int.reduceNeg, Int.reduceToNat, true_and, and_true, and_self, beq_iff_eq, Bool.and_eq_true, Bool.or_eq_true, or_false, false_or, or_true, true_or, and_false, false_and, hu_hr, hr_hr, hr_at, hr_nc, not_false_eq_true, Int.reduceEq, Int.pow_zero, Int.reducePow, Int.reduceMul, Int.reduceAdd, Int.reduceDiv, Int.reduceMod, Int.zero_add, Int.add_zero, Int.mul_one, Int.cast_ofNat_Int, r1])
    all_goals (first | trivial | exact ⟨rfl, rfl⟩)
abbrev nuC (X : Int → Int) (len b v p : Int) : Prop := 0 < v ∧ nxP X len p 48 57 ∧ 10 * v + X p - 48 ≤ b
def nuL (X : Int → Int) (len b : Int) : Nat → Int → Int → Int × Int
  | 0, v, p => (v, p)
  | n + 1, v, p => if nuC X len b v p then nuL X len b n (10 * v + X p - 48) (p + 1) else (v, p)
set_option maxHeartbeats 4000000 in
set_option maxRecDepth 100000 in
theorem nu_step {S : Hp} {a b v : Int} {Q : Option MV → Hp → Prop} (hT : TxP (S 0 35) (S 0 30)) (hb : 0 ≤ b ∧ b < 1000) (hv : 0 ≤ v ∧ v < 1000) (hc : nuC (S 0 35) (S 0 30 7) b v (S 0 30 5)) (h : Wp 166 52 [some (.inr (0, 30)), some (.inl a), some (.inl b), some (.inl (10 * v + S 0 35 (S 0 30 5) - 48))] [] (hr S 0 30 (up (S 0 30) 5 (S 0 30 5 + 1))) Q) : Wp 166 52 [some (.inr (0, 30)), some (.inl a), some (.inl b), some (.inl v)] [] S Q := by
  have r1 := fun Q => m_isNext (S := S) (a := 48) (b := 57) hT (by omega) (by omega) Q
  unfold nuC at hc
  rw [if_pos hc.2.1] at r1
  unfold nxP at hc
  have hx := hT.2.2 (S 0 30 5) (by have := hT.1; omega) (by have := hT.1; have := hT.2.1; omega)
  have hp := hT.1
  have hl := hT.2.1
  refine vg_cut (fun m pc => (m == 166 && pc == 52)) (fun m => m == 166) 40 _ _ _ _ _ _ ?_
  repeat' first | (with_reducible refine vT ?_ ?_; · omega) | (with_reducible refine vF ?_ ?_; · omega) | (with_reducible refine vI (fun _ => ?_) (fun _ => ?_)) | (simp (config := {maxSteps := 1000000}) (disch := (first | assumption | omega | (rw [hr_at]; assumption) | (rw [hr_at]; omega))) only [f_X8_number, wg_0, wg_s, wK_none, wK_N, wK_C, wK_R, wQ_some, wQ_none, stR, mZ, mC, stI, ini, mL, gI, gA, sI, sA, bi, gF, pF, kF, kT, kL, c2, mT, mR, f4, tsw, lsw, tgt, inR, Nat.reduceLT, Nat.reduceLeDiff, Nat.reduceEqDiff, Nat.reduceAdd, Nat.reduceSub, ↓reduceIte, Bool.false_eq_true, List.map_cons, List.map_nil, List.length_cons, List.length_nil, List.replicate, List.cons_append, List.nil_append, List.getElem?_cons_zero, List.getElem?_cons_succ, List.set, List.take_succ_cons, List.take_zero, List.drop_succ_cons, List.drop_zero, List.reverse_cons, List.reverse_nil, Int.reduceLE, Int.reduceLT, Int.reduceNeg, Int.reduceToNat, true_and, and_true, and_self, beq_iff_eq, Bool.and_eq_true, Bool.or_eq_true, or_false, false_or, or_true, true_or, and_false, false_and, hu_hr, hr_hr, hr_at, hr_nc, not_false_eq_true, Int.reduceEq, Int.pow_zero, Int.reducePow, Int.reduceMul, Int.reduceAdd, Int.reduceDiv, Int.reduceMod, Int.zero_add, Int.add_zero, Int.mul_one, Int.cast_ofNat_Int, r1])
  exact h
set_option maxHeartbeats 4000000 in
set_option maxRecDepth 100000 in
theorem nu_end {S : Hp} {a b v : Int} {Q : Option MV → Hp → Prop} (hT : TxP (S 0 35) (S 0 30)) (hb : 0 ≤ b ∧ b < 1000) (hv : 0 ≤ v ∧ v < 1000) (hc : ¬ nuC (S 0 35) (S 0 30 7) b v (S 0 30 5)) (h : Q (some (.inl v)) S) : Wp 166 52 [some (.inr (0, 30)), some (.inl a), some (.inl b), some (.inl v)] [] S Q := by
  have r1 := fun Q => m_isNext (S := S) (a := 48) (b := 57) hT (by omega) (by omega) Q
  have hp := hT.1
  have hl := hT.2.1
  by_cases hn : nxP (S 0 35) (S 0 30 7) (S 0 30 5) 48 57
  · rw [if_pos hn] at r1
    have hn2 := hn
    unfold nxP at hn2
    have hx := hT.2.2 (S 0 30 5) (by omega) (by omega)
    have hc2 : ¬ (0 < v ∧ 10 * v + S 0 35 (S 0 30 5) - 48 ≤ b) := fun q => hc ⟨q.1, hn, q.2⟩
    refine vg_cut (fun m pc => (m == 166 && pc == 52)) (fun m => m == 166) 40 _ _ _ _ _ _ ?_
    repeat' first | (with_reducible refine vT ?_ ?_; · omega) | (with_reducible refine vF ?_ ?_; · omega) | (with_reducible refine vI (fun _ => ?_) (fun _ => ?_)) | (simp (config := {maxSteps := 1000000}) (disch := (first | assumption | omega | (rw [hr_at]; assumption) | (rw [hr_at]; omega))) only [f_X8_number, wg_0, wg_s, wK_none, wK_N, wK_C, wK_R, wQ_some, wQ_none, stR, mZ, mC, stI, ini, mL, gI, gA, sI, sA, bi, gF, pF, kF, kT, kL, c2, mT, mR, f4, tsw, lsw, tgt, inR, Nat.reduceLT, Nat.reduceLeDiff, Nat.reduceEqDiff, Nat.reduceAdd, Nat.reduceSub, ↓reduceIte, Bool.false_eq_true, List.map_cons, List.map_nil, List.length_cons, List.length_nil, List.replicate, List.cons_append, List.nil_append, List.getElem?_cons_zero, List.getElem?_cons_succ, List.set, List.take_succ_cons, List.take_zero, List.drop_succ_cons, List.drop_zero, List.reverse_cons, List.reverse_nil, Int.reduceLE, Int.reduceLT, Int.reduceNeg, Int.reduceToNat, true_and, and_true, and_self, beq_iff_eq, Bool.and_eq_true, Bool.or_eq_true, or_false, false_or, or_true, true_or, and_false, false_and, hu_hr, hr_hr, hr_at, hr_nc, not_false_eq_true, Int.reduceEq, Int.pow_zero, Int.reducePow, Int.reduceMul, Int.reduceAdd, Int.reduceDiv, Int.reduceMod, Int.zero_add, Int.add_zero, Int.mul_one, Int.cast_ofNat_Int, r1])
    all_goals exact h
  · rw [if_neg hn] at r1
    refine vg_cut (fun m pc => (m == 166 && pc == 52)) (fun m => m == 166) 40 _ _ _ _ _ _ ?_
    repeat' first | (with_reducible refine vT ?_ ?_; · omega) | (with_reducible refine vF ?_ ?_; · omega) | (with_reducible refine vI (fun _ => ?_) (fun _ => ?_)) | (simp (config := {maxSteps := 1000000}) (disch := (first | assumption | omega | (rw [hr_at]; assumption) | (rw [hr_at]; omega))) only [f_X8_number, wg_0, wg_s, wK_none, wK_N, wK_C, wK_R, wQ_some, wQ_none, stR, mZ, mC, stI, ini, mL, gI, gA, sI, sA, bi, gF, pF, kF, kT, kL, c2, mT, mR, f4, tsw, lsw, tgt, inR, Nat.reduceLT, Nat.reduceLeDiff, Nat.reduceEqDiff, Nat.reduceAdd, Nat.reduceSub, ↓reduceIte, Bool.false_eq_true, List.map_cons, List.map_nil, List.length_cons, List.length_nil, List.replicate, List.cons_append, List.nil_append, List.getElem?_cons_zero, List.getElem?_cons_succ, List.set, List.take_succ_cons, List.take_zero, List.drop_succ_cons, List.drop_zero, List.reverse_cons, List.reverse_nil, Int.reduceLE, Int.reduceLT, Int.reduceNeg, Int.reduceToNat, true_and, and_true, and_self, beq_iff_eq, Bool.and_eq_true, Bool.or_eq_true, or_false, false_or, or_true, true_or, and_false, false_and, hu_hr, hr_hr, hr_at, hr_nc, not_false_eq_true, Int.reduceEq, Int.pow_zero, Int.reducePow, Int.reduceMul, Int.reduceAdd, Int.reduceDiv, Int.reduceMod, Int.zero_add, Int.add_zero, Int.mul_one, Int.cast_ofNat_Int, r1])
    all_goals exact h
set_option maxHeartbeats 4000000 in
set_option maxRecDepth 100000 in
theorem TxP_p {X R : Int → Int} {p : Int} (h : TxP X R) (hp : 0 ≤ p ∧ p ≤ R 7) : TxP X (up R 5 p) := by
  refine ⟨?_, ?_, h.2.2⟩
  · rw [up_eq rfl, up_ne (by decide)]; exact hp
  · rw [up_ne (by decide)]; exact h.2.1
set_option maxHeartbeats 4000000 in
set_option maxRecDepth 100000 in
theorem nu_loop {a b : Int} {Q : Option MV → Hp → Prop} (hb : 0 ≤ b ∧ b < 1000) : ∀ (n : Nat) (S : Hp) (v : Int), TxP (S 0 35) (S 0 30) → 60 ≤ S 0 30 5 + n → (0 ≤ v ∧ v < 1000) → Q (some (.inl (nuL (S 0 35) (S 0 30 7) b n v (S 0 30 5)).1)) (hr S 0 30 (up (S 0 30) 5 (nuL (S 0 35) (S 0 30 7) b n v (S 0 30 5)).2)) → Wp 166 52 [some (.inr (0, 30)), some (.inl a), some (.inl b), some (.inl v)] [] S Q
  | 0, S, v, hT, hn, hv, h => by
    unfold nuL at h
    rw [up_id, hr_id] at h
    refine nu_end hT hb hv (fun hc => ?_) h
    have h1 := hT.1
    have h2 := hT.2.1
    have h3 := hc.2.1.1
    omega
  | n + 1, S, v, hT, hn, hv, h => by
    unfold nuL at h
    by_cases hc : nuC (S 0 35) (S 0 30 7) b v (S 0 30 5)
    · rw [if_pos hc] at h
      refine nu_step hT hb hv hc ?_
      have h1 := hT.1
      have h3 := hc.2.1.1
      have h4 := hc.2.2
      have h5 := hc.2.1.2.1
      refine nu_loop hb n _ _ ?_ ?_ ?_ ?_
      · rw [hr_nc (by decide), hr_at]
        exact TxP_p hT (by omega)
      · rw [hr_at, up_eq rfl]; omega
      · omega
      · rw [hr_hr, hr_at, hr_nc (by decide), up_eq rfl, up_ne (by decide), up_up]
        exact h
    · rw [if_neg hc] at h
      rw [up_id, hr_id] at h
      exact nu_end hT hb hv hc h
def nuM (X : Int → Int) (len p a b : Int) : Int × Int := if nxP X len p (48 + a) (if b < 9 then 48 + b else 57) then nuL X len b 60 (X p - 48) (p + 1) else (-5, p)
set_option maxHeartbeats 4000000 in
set_option maxRecDepth 100000 in
theorem m_number {S : Hp} {a b : Int} (hT : TxP (S 0 35) (S 0 30)) (ha : 0 ≤ a ∧ a ≤ 1) (hb : 0 ≤ b ∧ b < 1000) (Q : Option MV → Hp → Prop) : Wc 166 [.inr (0, 30), .inl a, .inl b] S Q = Q (some (.inl (nuM (S 0 35) (S 0 30 7) (S 0 30 5) a b).1)) (hr S 0 30 (up (S 0 30) 5 (nuM (S 0 35) (S 0 30 7) (S 0 30 5) a b).2)) := by
  refine Wc_eq ?_ Q
  unfold Wc nuM
  have hp := hT.1
  have hl := hT.2.1
  have hbb : (if b < 9 then 48 + b else 57) = (if b < 9 then 48 + b else 57) := rfl
  by_cases h9 : b < 9
  · rw [if_pos h9]
    have r1 := fun Q => m_isNext (S := S) (a := 48 + a) (b := 48 + b) hT (by omega) (by omega) Q
    by_cases hn : nxP (S 0 35) (S 0 30 7) (S 0 30 5) (48 + a) (48 + b)
    · rw [if_pos hn] at r1
      rw [if_pos hn]
      have hn2 := hn
      unfold nxP at hn2
      have hx := hT.2.2 (S 0 30 5) (by omega) (by omega)
      refine vg_sound (fun m pc => (m == 166 && pc == 52)) (fun m => m == 166) 40 _ _ _ _ _ _ ?_
      repeat' first | (with_reducible refine vT ?_ ?_; · omega) | (with_reducible refine vF ?_ ?_; · omega) | (with_reducible refine vI (fun _ => ?_) (fun _ => ?_)) | (simp (config := {maxSteps := 1000000}) (disch := (first | assumption | omega | (rw [hr_at]; assumption) | (rw [hr_at]; omega))) only [f_X8_number, wg_0, wg_s, wK_none, wK_N, wK_C, wK_R, wQ_some, wQ_none, stR, mZ, mC, stI, ini, mL, gI, gA, sI, sA, bi, gF, pF, kF, kT, kL, c2, mT, mR, f4, tsw, lsw, tgt, inR, Nat.reduceLT, Nat.reduceLeDiff, Nat.reduceEqDiff, Nat.reduceAdd, Nat.reduceSub, ↓reduceIte, Bool.false_eq_true, List.map_cons, List.map_nil, List.length_cons, List.length_nil, List.replicate, List.cons_append, List.nil_append, List.getElem?_cons_zero, List.getElem?_cons_succ, List.set, List.take_succ_cons, List.take_zero, List.drop_succ_cons, List.drop_zero, List.reverse_cons, List.reverse_nil, Int.reduceLE, Int.reduceLT, Int.reduceNeg, Int.reduceToNat, true_and, and_true, and_self, beq_iff_eq, Bool.and_eq_true, Bool.or_eq_true, or_false, false_or, or_true, true_or, and_false, false_and, hu_hr, hr_hr, hr_at, hr_nc, not_false_eq_true, Int.reduceEq, Int.pow_zero, Int.reducePow, Int.reduceMul, Int.reduceAdd, Int.reduceDiv, Int.reduceMod, Int.zero_add, Int.add_zero, Int.mul_one, Int.cast_ofNat_Int, r1])
      refine nu_loop hb 60 _ _ ?_ ?_ ?_ ?_
      · rw [hr_nc (by decide), hr_at]
        exact TxP_p hT (by omega)
      · rw [hr_at, up_eq rfl]; omega
      · omega
      · rw [hr_hr, hr_at, hr_nc (by decide), up_eq rfl, up_ne (by decide), up_up]
        exact ⟨rfl, rfl⟩
    · rw [if_neg hn] at r1
      rw [if_neg hn, up_id, hr_id]
      refine vg_sound (fun m pc => (m == 166 && pc == 52)) (fun m => m == 166) 40 _ _ _ _ _ _ ?_
      repeat' first | (with_reducible refine vT ?_ ?_; · omega) | (with_reducible refine vF ?_ ?_; · omega) | (with_reducible refine vI (fun _ => ?_) (fun _ => ?_)) | (simp (config := {maxSteps := 1000000}) (disch := (first | assumption | omega | (rw [hr_at]; assumption) | (rw [hr_at]; omega))) only [f_X8_number, wg_0, wg_s, wK_none, wK_N, wK_C, wK_R, wQ_some, wQ_none, stR, mZ, mC, stI, ini, mL, gI, gA, sI, sA, bi, gF, pF, kF, kT, kL, c2, mT, mR, f4, tsw, lsw, tgt, inR, Nat.reduceLT, Nat.reduceLeDiff, Nat.reduceEqDiff, Nat.reduceAdd, Nat.reduceSub, ↓reduceIte, Bool.false_eq_true, List.map_cons, List.map_nil, List.length_cons, List.length_nil, List.replicate, List.cons_append, List.nil_append, List.getElem?_cons_zero, List.getElem?_cons_succ, List.set, List.take_succ_cons, List.take_zero, List.drop_succ_cons, List.drop_zero, List.reverse_cons, List.reverse_nil, Int.reduceLE, Int.reduceLT, Int.reduceNeg, Int.reduceToNat, true_and, and_true, and_self, beq_iff_eq, Bool.and_eq_true, Bool.or_eq_true, or_false, false_or, or_true, true_or, and_false, false_and, hu_hr, hr_hr, hr_at, hr_nc, not_false_eq_true, Int.reduceEq, Int.pow_zero, Int.reducePow, Int.reduceMul, Int.reduceAdd, Int.reduceDiv, Int.reduceMod, Int.zero_add, Int.add_zero, Int.mul_one, Int.cast_ofNat_Int, r1])
      all_goals (first | trivial | exact ⟨rfl, rfl⟩)
  · rw [if_neg h9]
    have r1 := fun Q => m_isNext (S := S) (a := 48 + a) (b := 57) hT (by omega) (by omega) Q
    by_cases hn : nxP (S 0 35) (S 0 30 7) (S 0 30 5) (48 + a) 57
    · rw [if_pos hn] at r1
      rw [if_pos hn]
      have hn2 := hn
      unfold nxP at hn2
      have hx := hT.2.2 (S 0 30 5) (by omega) (by omega)
      refine vg_sound (fun m pc => (m == 166 && pc == 52)) (fun m => m == 166) 40 _ _ _ _ _ _ ?_
      repeat' first | (with_reducible refine vT ?_ ?_; · omega) | (with_reducible refine vF ?_ ?_; · omega) | (with_reducible refine vI (fun _ => ?_) (fun _ => ?_)) | (simp (config := {maxSteps := 1000000}) (disch := (first | assumption | omega | (rw [hr_at]; assumption) | (rw [hr_at]; omega))) only [f_X8_number, wg_0, wg_s, wK_none, wK_N, wK_C, wK_R, wQ_some, wQ_none, stR, mZ, mC, stI, ini, mL, gI, gA, sI, sA, bi, gF, pF, kF, kT, kL, c2, mT, mR, f4, tsw, lsw, tgt, inR, Nat.reduceLT, Nat.reduceLeDiff, Nat.reduceEqDiff, Nat.reduceAdd, Nat.reduceSub, ↓reduceIte, Bool.false_eq_true, List.map_cons, List.map_nil, List.length_cons, List.length_nil, List.replicate, List.cons_append, List.nil_append, List.getElem?_cons_zero, List.getElem?_cons_succ, List.set, List.take_succ_cons, List.take_zero, List.drop_succ_cons, List.drop_zero, List.reverse_cons, List.reverse_nil, Int.reduceLE, Int.reduceLT, Int.reduceNeg, Int.reduceToNat, true_and, and_true, and_self, beq_iff_eq, Bool.and_eq_true, Bool.or_eq_true, or_false, false_or, or_true, true_or, and_false, false_and, hu_hr, hr_hr, hr_at, hr_nc, not_false_eq_true, Int.reduceEq, Int.pow_zero, Int.reducePow, Int.reduceMul, Int.reduceAdd, Int.reduceDiv, Int.reduceMod, Int.zero_add, Int.add_zero, Int.mul_one, Int.cast_ofNat_Int, r1])
      refine nu_loop hb 60 _ _ ?_ ?_ ?_ ?_
      · rw [hr_nc (by decide), hr_at]
        exact TxP_p hT (by omega)
      · rw [hr_at, up_eq rfl]; omega
      · omega
      · rw [hr_hr, hr_at, hr_nc (by decide), up_eq rfl, up_ne (by decide), up_up]
        exact ⟨rfl, rfl⟩
    · rw [if_neg hn] at r1
      rw [if_neg hn, up_id, hr_id]
      refine vg_sound (fun m pc => (m == 166 && pc == 52)) (fun m => m == 166) 40 _ _ _ _ _ _ ?_
      repeat' first | (with_reducible refine vT ?_ ?_; · omega) | (with_reducible refine vF ?_ ?_; · omega) | (with_reducible refine vI (fun _ => ?_) (fun _ => ?_)) | (simp (config := {maxSteps := 1000000}) (disch := (first | assumption | omega | (rw [hr_at]; assumption) | (rw [hr_at]; omega))) only [f_X8_number, wg_0, wg_s, wK_none, wK_N, wK_C, wK_R, wQ_some, wQ_none, stR, mZ, mC, stI, ini, mL, gI, gA, sI, sA, bi, gF, pF, kF, kT, kL, c2, mT, mR, f4, tsw, lsw, tgt, inR, Nat.reduceLT, Nat.reduceLeDiff, Nat.reduceEqDiff, Nat.reduceAdd, Nat.reduceSub, ↓reduceIte, Bool.false_eq_true, List.map_cons, List.map_nil, List.length_cons, List.length_nil, List.replicate, List.cons_append, List.nil_append, List.getElem?_cons_zero, List.getElem?_cons_succ, List.set, List.take_succ_cons, List.take_zero, List.drop_succ_cons, List.drop_zero, List.reverse_cons, List.reverse_nil, Int.reduceLE, Int.reduceLT, Int.reduceNeg, Int.reduceToNat, true_and, and_true, and_self, beq_iff_eq, Bool.and_eq_true, Bool.or_eq_true, or_false, false_or, or_true, true_or, and_false, false_and, hu_hr, hr_hr, hr_at, hr_nc, not_false_eq_true, Int.reduceEq, Int.pow_zero, Int.reducePow, Int.reduceMul, Int.reduceAdd, Int.reduceDiv, Int.reduceMod, Int.zero_add, Int.add_zero, Int.mul_one, Int.cast_ofNat_Int, r1])
      all_goals (first | trivial | exact ⟨rfl, rfl⟩)
