/-! THE REFERENCE's row: who goes, the whole of it -/
set_option maxHeartbeats 4000000 in
set_option maxRecDepth 100000 in
theorem tsM_at {M : Int → Int} {w r : Int} : ∀ (n : Nat) (i : Int), tsM M w r n i = if 8 + 15 * w + (1 + r) ≤ i ∧ i < 8 + 15 * w + (1 + r) + n then M (i + 1) else M i
  | 0, i => by
    rw [if_neg (by omega)]
    rfl
  | n + 1, i => by
    unfold tsM
    by_cases h : i = 8 + 15 * w + (1 + (r + (n : Int)))
    · rw [up_eq h, tsM_at n, if_neg (by omega), if_pos (by omega), h]
      congr 1
      omega
    · rw [up_ne h, tsM_at n]
      by_cases h2 : 8 + 15 * w + (1 + r) ≤ i ∧ i < 8 + 15 * w + (1 + r) + n
      · rw [if_pos h2, if_pos (by omega)]
      · rw [if_neg h2, if_neg (by omega)]
set_option maxHeartbeats 4000000 in
set_option maxRecDepth 100000 in
theorem toR_at {M : Int → Int} {w r : Int} (h0 : 0 ≤ r ∧ r < 8) (i : Int) : toR M w r i = if i = 8 + 15 * w + 8 then 0 else if i = 8 + 15 * w then M (8 + 15 * w) - 1 else if 8 + 15 * w + (1 + r) ≤ i ∧ i < 8 + 15 * w + 8 then M (i + 1) else M i := by
  unfold toR
  by_cases h : i = 8 + 15 * w + 8
  · rw [up_eq h, if_pos h]
  · rw [up_ne h, if_neg h, tsM_at]
    unfold moM
    by_cases h2 : i = 8 + 15 * w
    · rw [if_neg (by omega), up_eq (by omega), if_pos h2, Int.add_zero]
      omega
    · rw [if_neg h2]
      by_cases h3 : 8 + 15 * w + (1 + r) ≤ i ∧ i < 8 + 15 * w + 8
      · rw [if_pos (by omega), if_pos h3, up_ne (by omega)]
      · rw [if_neg (by omega), if_neg h3, up_ne (by omega)]
def SlB (M : Int → Int) : Prop := ∀ w : Int, 0 ≤ w → w < 3 → (0 ≤ M (8 + 15 * w) ∧ M (8 + 15 * w) ≤ 8) ∧ ∀ j : Int, 0 ≤ j → j < 8 → 0 ≤ M (8 + 15 * w + (1 + j)) ∧ M (8 + 15 * w + (1 + j)) < 600
set_option maxHeartbeats 4000000 in
set_option maxRecDepth 100000 in
theorem slots_toR {M : Int → Int} {w r : Int} (h0 : 0 ≤ r ∧ r < 8) (h : ∀ j : Int, 0 ≤ j → j < 8 → 0 ≤ M (8 + 15 * w + (1 + j)) ∧ M (8 + 15 * w + (1 + j)) < 600) : ∀ j : Int, 0 ≤ j → j < 8 → 0 ≤ toR M w r (8 + 15 * w + (1 + j)) ∧ toR M w r (8 + 15 * w + (1 + j)) < 600 := by
  intro j h1 h2
  rw [toR_at h0]
  by_cases h3 : j = 7
  · rw [if_pos (by omega)]; omega
  · rw [if_neg (by omega), if_neg (by omega)]
    split
    · have e : 8 + 15 * w + (1 + j) + 1 = 8 + 15 * w + (1 + (j + 1)) := by omega
      rw [e]
      exact h (j + 1) (by omega) (by omega)
    · exact h j h1 h2
def lvi (t w : Int) : Nat → (Int → Int) × Int → (Int → Int) × Int
  | 0, p => p
  | n + 1, p => lvi t w n (if p.1 (8 + 15 * w + (1 + (n : Int))) = t then toR p.1 w n else p.1, if p.1 (8 + 15 * w + (1 + (n : Int))) = t then p.2 + 1 else p.2)
set_option maxHeartbeats 4000000 in
set_option maxRecDepth 100000 in
theorem lvi_b (t w : Int) : ∀ (n : Nat) (p : (Int → Int) × Int), p.2 ≤ (lvi t w n p).2 ∧ (lvi t w n p).2 ≤ p.2 + n
  | 0, p => ⟨Int.le_refl _, by simp [lvi]⟩
  | n + 1, p => by
    have h := lvi_b t w n (if p.1 (8 + 15 * w + (1 + (n : Int))) = t then toR p.1 w n else p.1, if p.1 (8 + 15 * w + (1 + (n : Int))) = t then p.2 + 1 else p.2)
    unfold lvi
    revert h
    dsimp only
    generalize lvi t w n _ = q
    intro h
    by_cases hc : p.1 (8 + 15 * w + (1 + (n : Int))) = t
    · rw [if_pos hc] at h; omega
    · rw [if_neg hc] at h; omega
set_option maxHeartbeats 4000000 in
set_option maxRecDepth 100000 in
theorem lvi_ne (t w : Int) : ∀ (n : Nat) (p : (Int → Int) × Int) (i : Int), n ≤ 8 → ¬ (8 + 15 * w ≤ i ∧ i ≤ 8 + 15 * w + 8) → (lvi t w n p).1 i = p.1 i
  | 0, p, i, _, _ => rfl
  | n + 1, p, i, hn, hi => by
    unfold lvi
    rw [lvi_ne t w n _ i (by omega) hi]
    dsimp only
    split
    · rw [toR_at (by omega), if_neg (by omega), if_neg (by omega), if_neg (by omega)]
    · rfl
set_option maxHeartbeats 4000000 in
set_option maxRecDepth 100000 in
theorem leave_loop {t w : Int} {Q : Option MV → Hp → Prop} (hw : 0 ≤ w ∧ w < 3) (ht : 0 ≤ t ∧ t < 600) : ∀ (n : Nat) (S : Hp) (c : Int), n ≤ 8 → (∀ j : Int, 0 ≤ j → j < 8 → 0 ≤ S 0 31 (8 + 15 * w + (1 + j)) ∧ S 0 31 (8 + 15 * w + (1 + j)) < 600) → Wp 153 19 [some (.inr (0, 30)), some (.inl t), some (.inl (lvi t w n (S 0 31, c)).2), some (.inl w), some (.inl (-1))] [] (hr S 0 31 (lvi t w n (S 0 31, c)).1) Q → Wp 153 19 [some (.inr (0, 30)), some (.inl t), some (.inl c), some (.inl w), some (.inl ((n : Int) - 1))] [] S Q
  | 0, S, c, _, _, h => by
    unfold lvi at h
    rw [hr_id] at h
    exact h
  | n + 1, S, c, hn, hj, h => by
    have e : ((n + 1 : Nat) : Int) - 1 = (n : Int) := by omega
    rw [e]
    refine leave_in hw (by omega) ht (hj n (by omega) (by omega)) ?_
    refine leave_loop hw ht n _ _ (by omega) ?_ ?_
    · rw [hr_at]
      split
      · exact slots_toR (by omega) hj
      · exact hj
    · rw [hr_hr, hr_at]
      exact h
set_option maxHeartbeats 4000000 in
set_option maxRecDepth 100000 in
theorem leave_win {S : Hp} {t c w : Int} {y : Option MV} {Q : Option MV → Hp → Prop} (hw : 0 ≤ w ∧ w < 3) (ht : 0 ≤ t ∧ t < 600) (hs : 0 ≤ S 0 31 (8 + 15 * w) ∧ S 0 31 (8 + 15 * w) ≤ 8) (hj : ∀ j : Int, 0 ≤ j → j < 8 → 0 ≤ S 0 31 (8 + 15 * w + (1 + j)) ∧ S 0 31 (8 + 15 * w + (1 + j)) < 600)
    (h : ∀ y : Option MV, Wp 153 4 [some (.inr (0, 30)), some (.inl t), some (.inl (lvi t w (S 0 31 (8 + 15 * w)).toNat (S 0 31, c)).2), some (.inl (w + 1)), y] [] (hr S 0 31 (lvi t w (S 0 31 (8 + 15 * w)).toNat (S 0 31, c)).1) Q) : Wp 153 4 [some (.inr (0, 30)), some (.inl t), some (.inl c), some (.inl w), y] [] S Q := by
  refine leave_head hw ?_
  have e : S 0 31 (8 + 15 * w) - 1 = (((S 0 31 (8 + 15 * w)).toNat : Nat) : Int) - 1 := by omega
  rw [e]
  refine leave_loop hw ht _ S c (by omega) hj ?_
  exact leave_next hw h
def lvW (t w : Int) (p : (Int → Int) × Int) : (Int → Int) × Int := lvi t w (p.1 (8 + 15 * w)).toNat p
def lvT (M : Int → Int) (t : Int) : (Int → Int) × Int := lvW t 2 (lvW t 1 (lvW t 0 (M, 0)))
def lvR (M : Int → Int) (t : Int) : Int := if (lvT M t).2 = 0 then -5 else (lvT M t).2
set_option maxHeartbeats 4000000 in
set_option maxRecDepth 100000 in
theorem lvW_ne {t w : Int} {p : (Int → Int) × Int} {i : Int} (hs : 0 ≤ p.1 (8 + 15 * w) ∧ p.1 (8 + 15 * w) ≤ 8) (hi : ¬ (8 + 15 * w ≤ i ∧ i ≤ 8 + 15 * w + 8)) : (lvW t w p).1 i = p.1 i := lvi_ne t w _ p i (by omega) hi
set_option maxHeartbeats 4000000 in
set_option maxRecDepth 100000 in
theorem lvW_b {t w : Int} {p : (Int → Int) × Int} (hs : 0 ≤ p.1 (8 + 15 * w) ∧ p.1 (8 + 15 * w) ≤ 8) : p.2 ≤ (lvW t w p).2 ∧ (lvW t w p).2 ≤ p.2 + 8 := by
  have h := lvi_b t w (p.1 (8 + 15 * w)).toNat p
  unfold lvW
  omega
set_option maxHeartbeats 4000000 in
set_option maxRecDepth 100000 in
theorem m_leaveNow {S : Hp} {t : Int} (hB : SlB (S 0 31)) (ht : 0 ≤ t ∧ t < 600) (Q : Option MV → Hp → Prop) : Wc 153 [.inr (0, 30), .inl t] S Q = Q (some (.inl (lvR (S 0 31) t))) (hr S 0 31 (lvT (S 0 31) t).1) := by
  refine Wc_eq ?_ Q
  unfold Wc
  refine vg_sound (fun m pc => (m == 153 && pc == 4)) (fun m => m == 153) 10 _ _ _ _ _ _ ?_
  repeat' first | (with_reducible refine vT ?_ ?_; · omega) | (with_reducible refine vF ?_ ?_; · omega) | (with_reducible refine vI (fun _ => ?_) (fun _ => ?_)) | (simp (config := {maxSteps := 1000000}) only [f_X8_leaveNow, wg_0, wg_s, wK_none, wK_N, wK_C, wK_R, wQ_some, wQ_none, stR, mZ, mC, stI, ini, mL, gI, gA, sI, sA, bi, gF, pF, kF, kT, kL, c2, mT, mR, f4, tsw, lsw, tgt, inR, Nat.reduceLT, Nat.reduceLeDiff, Nat.reduceEqDiff, Nat.reduceAdd, Nat.reduceSub, ↓reduceIte, Bool.false_eq_true, List.map_cons, List.map_nil, List.length_cons, List.length_nil, List.replicate, List.cons_append, List.nil_append, List.getElem?_cons_zero, List.getElem?_cons_succ, List.set, List.take_succ_cons, List.take_zero, List.drop_succ_cons, List.drop_zero, List.reverse_cons, List.reverse_nil, Int.reduceLE, Int.reduceLT, Int.reduceNeg, Int.reduceToNat, true_and, and_true, and_self, beq_iff_eq, Bool.and_eq_true, Bool.or_eq_true, or_false, false_or, or_true, true_or, and_false, false_and, hu_hr, hr_hr, hr_at, hr_nc, not_false_eq_true, Int.reduceEq, Int.pow_zero, Int.reducePow, Int.reduceMul, Int.reduceAdd, Int.reduceDiv, Int.reduceMod, Int.zero_add, Int.add_zero, Int.mul_one])
  have b0 := hB 0 (by omega) (by omega)
  have b1 := hB 1 (by omega) (by omega)
  have b2 := hB 2 (by omega) (by omega)
  have c0 := lvW_b (t := t) (w := 0) (p := (S 0 31, 0)) b0.1
  have f0 : ∀ i : Int, ¬ (8 ≤ i ∧ i ≤ 16) → (lvW t 0 (S 0 31, 0)).1 i = S 0 31 i := fun i hi => lvW_ne (p := (S 0 31, 0)) b0.1 (by omega)
  refine leave_win (w := 0) (by omega) ht b0.1 b0.2 (fun y => ?_)
  change Wp 153 4 [some (.inr (0, 30)), some (.inl t), some (.inl (lvW t 0 (S 0 31, 0)).2), some (.inl 1), y] [] (hr S 0 31 (lvW t 0 (S 0 31, 0)).1) _
  unfold lvR lvT
  generalize lvW t 0 (S 0 31, 0) = p at *
  have g1 : p.1 (8 + 15 * 1) = S 0 31 (8 + 15 * 1) := f0 _ (by omega)
  have c1 := lvW_b (t := t) (w := 1) (p := p) (by rw [g1]; exact b1.1)
  have f1 : ∀ i : Int, ¬ (23 ≤ i ∧ i ≤ 31) → (lvW t 1 p).1 i = p.1 i := fun i hi => lvW_ne (by rw [g1]; exact b1.1) (by omega)
  refine leave_win (w := 1) (by omega) ht (by rw [hr_at, g1]; exact b1.1) (by
    intro j h1 h2
    rw [hr_at, f0 _ (by omega)]
    exact b1.2 j h1 h2) (fun y => ?_)
  rw [hr_hr, hr_at]
  change Wp 153 4 [some (.inr (0, 30)), some (.inl t), some (.inl (lvW t 1 p).2), some (.inl 2), y] [] (hr S 0 31 (lvW t 1 p).1) _
  generalize lvW t 1 p = q at *
  have g2 : q.1 (8 + 15 * 2) = S 0 31 (8 + 15 * 2) := by rw [f1 _ (by omega), f0 _ (by omega)]
  have c2 := lvW_b (t := t) (w := 2) (p := q) (by rw [g2]; exact b2.1)
  refine leave_win (w := 2) (by omega) ht (by rw [hr_at, g2]; exact b2.1) (by
    intro j h1 h2
    rw [hr_at, f1 _ (by omega), f0 _ (by omega)]
    exact b2.2 j h1 h2) (fun y => ?_)
  rw [hr_hr, hr_at]
  change Wp 153 4 [some (.inr (0, 30)), some (.inl t), some (.inl (lvW t 2 q).2), some (.inl 3), y] [] (hr S 0 31 (lvW t 2 q).1) _
  refine leave_end (by simp only [] at c0; omega) ⟨rfl, rfl⟩
