/-! THE CLASS: who goes; what is told of windows and draws -/
def raW (f : Int → Int) (t w : Int) : Nat → (Int → Int) × Int
  | 0 => (f, 0)
  | j + 1 => (if (raW f t w j).1 (w * 8 + (j : Int)) = t then (raW f t w j).1 else up (raW f t w j).1 (w * 8 + (raW f t w j).2) ((raW f t w j).1 (w * 8 + (j : Int))), if (raW f t w j).1 (w * 8 + (j : Int)) = t then (raW f t w j).2 else (raW f t w j).2 + 1)
set_option maxHeartbeats 4000000 in
set_option maxRecDepth 100000 in
theorem raW_b {f : Int → Int} {t w : Int} : ∀ j : Nat, 0 ≤ (raW f t w j).2 ∧ (raW f t w j).2 ≤ j
  | 0 => ⟨Int.le_refl _, Int.le_refl _⟩
  | j + 1 => by
    have h := raW_b (f := f) (t := t) (w := w) j
    unfold raW
    dsimp only
    split <;> omega
set_option maxHeartbeats 4000000 in
set_option maxRecDepth 100000 in
theorem ra_in {S : Hp} {k : Nat} {O : Of} {t l w s z : Int} {Q : Option MV → Hp → Prop} (hw : 0 ≤ w ∧ w < 3) (hn : 0 ≤ O 11 w ∧ O 11 w ≤ 8) (hs : 0 ≤ s ∧ s ≤ z) (hz : 0 ≤ z ∧ z < O 11 w) (ht : 0 ≤ t ∧ t < 600) (hv : 0 ≤ O 10 (w * 8 + z) ∧ O 10 (w * 8 + z) < 600) (h : Wp 55 21 [some (.inr (k, 9)), some (.inl t), some (.inl l), some (.inl w), some (.inl (w * 8)), some (.inl (if O 10 (w * 8 + z) = t then s else s + 1)), some (.inl (z + 1))] [] (ho S k (if O 10 (w * 8 + z) = t then O else oc O 10 (up (O 10) (w * 8 + s) (O 10 (w * 8 + z))))) Q) : Wp 55 21 [some (.inr (k, 9)), some (.inl t), some (.inl l), some (.inl w), some (.inl (w * 8)), some (.inl s), some (.inl z)] [] (ho S k O) Q := by
  by_cases e : O 10 (w * 8 + z) = t
  · rw [if_pos e, if_pos e] at h
    refine vg_cut (fun m pc => (m == 55 && pc == 21)) (fun m => m == 55) 60 _ _ _ _ _ _ ?_
    repeat' first | (with_reducible refine vT ?_ ?_; · omega) | (with_reducible refine vF ?_ ?_; · omega) | (with_reducible refine vI (fun _ => ?_) (fun _ => ?_)) | (simp (config := {maxSteps := 1000000}) (disch := (first | assumption | omega | (rw [hr_at]; assumption) | (rw [hr_at]; omega) | (repeat' first | assumption | decide | omega | refine FxB_nc ?_ ?_ | refine adO_B ?_ ?_ | refine rmO_B ?_ ?_))) only [f_X6_removeAll, wg_0, wg_s, wK_none, wK_N, wK_C, wK_R, wQ_some, wQ_none, stR, mZ, mC, stI, ini, mL, gI, gA, sI, sA, bi, gF, pF, kF, kT, kL, c2, mT, mR, f4, tsw, lsw, tgt, inR, Nat.reduceLT, Nat.reduceLeDiff, Nat.reduceEqDiff, Nat.reduceAdd, Nat.reduceSub, ↓reduceIte, Bool.false_eq_true, List.map_cons, List.map_nil, List.length_cons, List.length_nil, List.replicate, List.cons_append, List.nil_append, List.getElem?_cons_zero, List.getElem?_cons_succ, List.set, List.take_succ_cons, List.take_zero, List.drop_succ_cons, List.drop_zero, List.reverse_cons, List.reverse_nil, Int.reduceLE, Int.reduceLT, Int.reduceNeg, Int.reduceToNat, true_and, and_true, and_self, beq_iff_eq, Bool.and_eq_true, Bool.or_eq_true, or_false, false_or, or_true, true_or, and_false, false_and, hu_ho, ho_at, oc_at, oc_nc, oc_oc, adO_nc, rmO_nc, not_false_eq_true, Int.reduceEq, Int.pow_zero, Int.reducePow, Int.reduceMul, Int.reduceAdd, Int.reduceDiv, Int.reduceMod, Int.zero_add, Int.add_zero, Int.mul_one, Int.cast_ofNat_Int])
    exact h
  · rw [if_neg e, if_neg e] at h
    refine vg_cut (fun m pc => (m == 55 && pc == 21)) (fun m => m == 55) 60 _ _ _ _ _ _ ?_
    repeat' first | (with_reducible refine vT ?_ ?_; · omega) | (with_reducible refine vF ?_ ?_; · omega) | (with_reducible refine vI (fun _ => ?_) (fun _ => ?_)) | (simp (config := {maxSteps := 1000000}) (disch := (first | assumption | omega | (rw [hr_at]; assumption) | (rw [hr_at]; omega) | (repeat' first | assumption | decide | omega | refine FxB_nc ?_ ?_ | refine adO_B ?_ ?_ | refine rmO_B ?_ ?_))) only [f_X6_removeAll, wg_0, wg_s, wK_none, wK_N, wK_C, wK_R, wQ_some, wQ_none, stR, mZ, mC, stI, ini, mL, gI, gA, sI, sA, bi, gF, pF, kF, kT, kL, c2, mT, mR, f4, tsw, lsw, tgt, inR, Nat.reduceLT, Nat.reduceLeDiff, Nat.reduceEqDiff, Nat.reduceAdd, Nat.reduceSub, ↓reduceIte, Bool.false_eq_true, List.map_cons, List.map_nil, List.length_cons, List.length_nil, List.replicate, List.cons_append, List.nil_append, List.getElem?_cons_zero, List.getElem?_cons_succ, List.set, List.take_succ_cons, List.take_zero, List.drop_succ_cons, List.drop_zero, List.reverse_cons, List.reverse_nil, Int.reduceLE, Int.reduceLT, Int.reduceNeg, Int.reduceToNat, true_and, and_true, and_self, beq_iff_eq, Bool.and_eq_true, Bool.or_eq_true, or_false, false_or, or_true, true_or, and_false, false_and, hu_ho, ho_at, oc_at, oc_nc, oc_oc, adO_nc, rmO_nc, not_false_eq_true, Int.reduceEq, Int.pow_zero, Int.reducePow, Int.reduceMul, Int.reduceAdd, Int.reduceDiv, Int.reduceMod, Int.zero_add, Int.add_zero, Int.mul_one, Int.cast_ofNat_Int])
    exact h
set_option maxHeartbeats 4000000 in
set_option maxRecDepth 100000 in
theorem ra_next {S : Hp} {k : Nat} {O : Of} {t l w s z : Int} {Q : Option MV → Hp → Prop} (hw : 0 ≤ w ∧ w < 3) (hn : 0 ≤ O 11 w ∧ O 11 w ≤ 8) (hz : z = O 11 w) (h : ∀ y1 y2 y3 : Option MV, Wp 55 4 [some (.inr (k, 9)), some (.inl t), some (.inl (l + (O 11 w - s))), some (.inl (w + 1)), y1, y2, y3] [] (ho S k (oc O 11 (up (O 11) w s))) Q) : Wp 55 21 [some (.inr (k, 9)), some (.inl t), some (.inl l), some (.inl w), some (.inl (w * 8)), some (.inl s), some (.inl z)] [] (ho S k O) Q := by
  refine vg_cut (fun m pc => (m == 55 && pc == 4) || (m == 55 && pc == 21)) (fun m => m == 55) 60 _ _ _ _ _ _ ?_
  repeat' first | (with_reducible refine vT ?_ ?_; · omega) | (with_reducible refine vF ?_ ?_; · omega) | (with_reducible refine vI (fun _ => ?_) (fun _ => ?_)) | (simp (config := {maxSteps := 1000000}) (disch := (first | assumption | omega | (rw [hr_at]; assumption) | (rw [hr_at]; omega) | (repeat' first | assumption | decide | omega | refine FxB_nc ?_ ?_ | refine adO_B ?_ ?_ | refine rmO_B ?_ ?_))) only [f_X6_removeAll, wg_0, wg_s, wK_none, wK_N, wK_C, wK_R, wQ_some, wQ_none, stR, mZ, mC, stI, ini, mL, gI, gA, sI, sA, bi, gF, pF, kF, kT, kL, c2, mT, mR, f4, tsw, lsw, tgt, inR, Nat.reduceLT, Nat.reduceLeDiff, Nat.reduceEqDiff, Nat.reduceAdd, Nat.reduceSub, ↓reduceIte, Bool.false_eq_true, List.map_cons, List.map_nil, List.length_cons, List.length_nil, List.replicate, List.cons_append, List.nil_append, List.getElem?_cons_zero, List.getElem?_cons_succ, List.set, List.take_succ_cons, List.take_zero, List.drop_succ_cons, List.drop_zero, List.reverse_cons, List.reverse_nil, Int.reduceLE, Int.reduceLT, Int.reduceNeg, Int.reduceToNat, true_and, and_true, and_self, beq_iff_eq, Bool.and_eq_true, Bool.or_eq_true, or_false, false_or, or_true, true_or, and_false, false_and, hu_ho, ho_at, oc_at, oc_nc, oc_oc, adO_nc, rmO_nc, not_false_eq_true, Int.reduceEq, Int.pow_zero, Int.reducePow, Int.reduceMul, Int.reduceAdd, Int.reduceDiv, Int.reduceMod, Int.zero_add, Int.add_zero, Int.mul_one, Int.cast_ofNat_Int])
  exact h _ _ _
set_option maxHeartbeats 4000000 in
set_option maxRecDepth 100000 in
theorem ra_head {S : Hp} {k : Nat} {O : Of} {t l w : Int} {y1 y2 y3 : Option MV} {Q : Option MV → Hp → Prop} (hw : 0 ≤ w ∧ w < 3) (h : Wp 55 21 [some (.inr (k, 9)), some (.inl t), some (.inl l), some (.inl w), some (.inl (w * 8)), some (.inl 0), some (.inl 0)] [] (ho S k O) Q) : Wp 55 4 [some (.inr (k, 9)), some (.inl t), some (.inl l), some (.inl w), y1, y2, y3] [] (ho S k O) Q := by
  refine vg_cut (fun m pc => (m == 55 && pc == 4) || (m == 55 && pc == 21)) (fun m => m == 55) 60 _ _ _ _ _ _ ?_
  repeat' first | (with_reducible refine vT ?_ ?_; · omega) | (with_reducible refine vF ?_ ?_; · omega) | (with_reducible refine vI (fun _ => ?_) (fun _ => ?_)) | (simp (config := {maxSteps := 1000000}) (disch := (first | assumption | omega | (rw [hr_at]; assumption) | (rw [hr_at]; omega) | (repeat' first | assumption | decide | omega | refine FxB_nc ?_ ?_ | refine adO_B ?_ ?_ | refine rmO_B ?_ ?_))) only [f_X6_removeAll, wg_0, wg_s, wK_none, wK_N, wK_C, wK_R, wQ_some, wQ_none, stR, mZ, mC, stI, ini, mL, gI, gA, sI, sA, bi, gF, pF, kF, kT, kL, c2, mT, mR, f4, tsw, lsw, tgt, inR, Nat.reduceLT, Nat.reduceLeDiff, Nat.reduceEqDiff, Nat.reduceAdd, Nat.reduceSub, ↓reduceIte, Bool.false_eq_true, List.map_cons, List.map_nil, List.length_cons, List.length_nil, List.replicate, List.cons_append, List.nil_append, List.getElem?_cons_zero, List.getElem?_cons_succ, List.set, List.take_succ_cons, List.take_zero, List.drop_succ_cons, List.drop_zero, List.reverse_cons, List.reverse_nil, Int.reduceLE, Int.reduceLT, Int.reduceNeg, Int.reduceToNat, true_and, and_true, and_self, beq_iff_eq, Bool.and_eq_true, Bool.or_eq_true, or_false, false_or, or_true, true_or, and_false, false_and, hu_ho, ho_at, oc_at, oc_nc, oc_oc, adO_nc, rmO_nc, not_false_eq_true, Int.reduceEq, Int.pow_zero, Int.reducePow, Int.reduceMul, Int.reduceAdd, Int.reduceDiv, Int.reduceMod, Int.zero_add, Int.add_zero, Int.mul_one, Int.cast_ofNat_Int])
  exact h
set_option maxHeartbeats 4000000 in
set_option maxRecDepth 100000 in
theorem ra_end {S : Hp} {k : Nat} {O : Of} {t l : Int} {y1 y2 y3 : Option MV} {Q : Option MV → Hp → Prop} (h : Q (some (.inl l)) (ho S k O)) : Wp 55 4 [some (.inr (k, 9)), some (.inl t), some (.inl l), some (.inl 3), y1, y2, y3] [] (ho S k O) Q := by
  refine vg_cut (fun m pc => (m == 55 && pc == 4)) (fun m => m == 55) 60 _ _ _ _ _ _ ?_
  repeat' first | (with_reducible refine vT ?_ ?_; · omega) | (with_reducible refine vF ?_ ?_; · omega) | (with_reducible refine vI (fun _ => ?_) (fun _ => ?_)) | (simp (config := {maxSteps := 1000000}) (disch := (first | assumption | omega | (rw [hr_at]; assumption) | (rw [hr_at]; omega) | (repeat' first | assumption | decide | omega | refine FxB_nc ?_ ?_ | refine adO_B ?_ ?_ | refine rmO_B ?_ ?_))) only [f_X6_removeAll, wg_0, wg_s, wK_none, wK_N, wK_C, wK_R, wQ_some, wQ_none, stR, mZ, mC, stI, ini, mL, gI, gA, sI, sA, bi, gF, pF, kF, kT, kL, c2, mT, mR, f4, tsw, lsw, tgt, inR, Nat.reduceLT, Nat.reduceLeDiff, Nat.reduceEqDiff, Nat.reduceAdd, Nat.reduceSub, ↓reduceIte, Bool.false_eq_true, List.map_cons, List.map_nil, List.length_cons, List.length_nil, List.replicate, List.cons_append, List.nil_append, List.getElem?_cons_zero, List.getElem?_cons_succ, List.set, List.take_succ_cons, List.take_zero, List.drop_succ_cons, List.drop_zero, List.reverse_cons, List.reverse_nil, Int.reduceLE, Int.reduceLT, Int.reduceNeg, Int.reduceToNat, true_and, and_true, and_self, beq_iff_eq, Bool.and_eq_true, Bool.or_eq_true, or_false, false_or, or_true, true_or, and_false, false_and, hu_ho, ho_at, oc_at, oc_nc, oc_oc, adO_nc, rmO_nc, not_false_eq_true, Int.reduceEq, Int.pow_zero, Int.reducePow, Int.reduceMul, Int.reduceAdd, Int.reduceDiv, Int.reduceMod, Int.zero_add, Int.add_zero, Int.mul_one, Int.cast_ofNat_Int])
  exact h
def rgO (O : Of) (t w : Int) : Of := oc (oc O 10 (raW (O 10) t w (O 11 w).toNat).1) 11 (up (O 11) w (raW (O 10) t w (O 11 w).toNat).2)
def rgN (O : Of) (t w : Int) : Int := O 11 w - (raW (O 10) t w (O 11 w).toNat).2
/- what lies behind is as it was -/
set_option maxHeartbeats 4000000 in
set_option maxRecDepth 100000 in
theorem raW_hi {f : Int → Int} {t w : Int} : ∀ (j : Nat) (i : Int), (i < w * 8 ∨ w * 8 + j ≤ i) → (raW f t w j).1 i = f i
  | 0, i, _ => rfl
  | j + 1, i, h => by
    have hb := raW_b (f := f) (t := t) (w := w) j
    unfold raW
    dsimp only
    split
    · exact raW_hi j i (by omega)
    · rw [up_ne (by omega)]
      exact raW_hi j i (by omega)
set_option maxHeartbeats 4000000 in
set_option maxRecDepth 100000 in
theorem ra_win {S : Hp} {k : Nat} {O : Of} {t l w : Int} {y1 y2 y3 : Option MV} {Q : Option MV → Hp → Prop} (hw : 0 ≤ w ∧ w < 3) (hn : 0 ≤ O 11 w ∧ O 11 w ≤ 8) (ht : 0 ≤ t ∧ t < 600) (hv : ∀ z : Int, 0 ≤ z → z < O 11 w → 0 ≤ O 10 (w * 8 + z) ∧ O 10 (w * 8 + z) < 600) (h : ∀ y1 y2 y3 : Option MV, Wp 55 4 [some (.inr (k, 9)), some (.inl t), some (.inl (l + rgN O t w)), some (.inl (w + 1)), y1, y2, y3] [] (ho S k (rgO O t w)) Q) : Wp 55 4 [some (.inr (k, 9)), some (.inl t), some (.inl l), some (.inl w), y1, y2, y3] [] (ho S k O) Q := by
  refine ra_head hw ?_
  obtain ⟨N, hN⟩ : ∃ N : Nat, N = (O 11 w).toNat := ⟨_, rfl⟩
  unfold rgO rgN at h
  rw [← hN] at h
  refine wp_for (fun j => [some (.inr (k, 9)), some (.inl t), some (.inl l), some (.inl w), some (.inl (w * 8)), some (.inl (raW (O 10) t w j).2), some (.inl (j : Int))]) (fun j => ho S k (oc O 10 (raW (O 10) t w j).1)) N rfl (by unfold raW; rw [oc_id]) (fun j hj h => ?_) ?_
  · have hb := raW_b (f := O 10) (t := t) (w := w) j
    have hh := raW_hi (f := O 10) (t := t) (w := w) j (w * 8 + j) (by omega)
    refine ra_in hw (by rw [oc_nc (by decide)]; exact hn) hb (by rw [oc_nc (by decide)]; omega) ht (by rw [oc_at, hh]; exact hv j (by omega) (by omega)) ?_
    rw [oc_at, oc_oc]
    rw [Int.natCast_add] at h
    unfold raW at h
    dsimp only at h
    by_cases e : (raW (O 10) t w j).1 (w * 8 + (j : Int)) = t
    · rw [if_pos e, if_pos e] at h ⊢
      exact h
    · rw [if_neg e, if_neg e] at h ⊢
      exact h
  · refine ra_next hw (by rw [oc_nc (by decide)]; exact hn) (by rw [oc_nc (by decide)]; omega) ?_
    rw [oc_nc (by decide)]
    exact h
def rmvO (O : Of) (t : Int) : Of := rgO (rgO (rgO O t 0) t 1) t 2
def rmvN (O : Of) (t : Int) : Int := rgN O t 0 + rgN (rgO O t 0) t 1 + rgN (rgO (rgO O t 0) t 1) t 2
def RwB (O : Of) : Prop := ∀ w : Int, 0 ≤ w → w < 3 → (0 ≤ O 11 w ∧ O 11 w ≤ 8) ∧ ∀ z : Int, 0 ≤ z → z < O 11 w → 0 ≤ O 10 (w * 8 + z) ∧ O 10 (w * 8 + z) < 600
set_option maxHeartbeats 4000000 in
set_option maxRecDepth 100000 in
theorem rgO_w {O : Of} {t w v : Int} (hw : 0 ≤ w ∧ w < 3) (hv : ¬ v = w) (hn : 0 ≤ O 11 w ∧ O 11 w ≤ 8) : rgO O t w 11 v = O 11 v ∧ ∀ z : Int, 0 ≤ z → z < 8 → rgO O t w 10 (v * 8 + z) = O 10 (v * 8 + z) := by
  unfold rgO
  refine ⟨?_, fun z h1 h2 => ?_⟩
  · rw [oc_at, up_ne hv]
  · rw [oc_nc (by decide), oc_at, raW_hi _ _ (by omega)]
set_option maxHeartbeats 4000000 in
set_option maxRecDepth 100000 in
theorem c_removeAll {S : Hp} {k : Nat} {O : Of} {t : Int} (hR : RwB O) (ht : 0 ≤ t ∧ t < 600) (Q : Option MV → Hp → Prop) : Wc 55 [.inr (k, 9), .inl t] (ho S k O) Q = Q (some (.inl (rmvN O t))) (ho S k (rmvO O t)) := by
  refine Wc_eq ?_ Q
  unfold Wc
  have b0 := hR 0 (by omega) (by omega)
  have b1 := hR 1 (by omega) (by omega)
  have b2 := hR 2 (by omega) (by omega)
  refine vg_sound (fun m pc => (m == 55 && pc == 4)) (fun m => m == 55) 30 _ _ _ _ _ _ ?_
  repeat' first | (with_reducible refine vT ?_ ?_; · omega) | (with_reducible refine vF ?_ ?_; · omega) | (with_reducible refine vI (fun _ => ?_) (fun _ => ?_)) | (simp (config := {maxSteps := 1000000}) (disch := (first | assumption | omega | (rw [hr_at]; assumption) | (rw [hr_at]; omega) | (repeat' first | assumption | decide | omega | refine FxB_nc ?_ ?_ | refine adO_B ?_ ?_ | refine rmO_B ?_ ?_))) only [f_X6_removeAll, wg_0, wg_s, wK_none, wK_N, wK_C, wK_R, wQ_some, wQ_none, stR, mZ, mC, stI, ini, mL, gI, gA, sI, sA, bi, gF, pF, kF, kT, kL, c2, mT, mR, f4, tsw, lsw, tgt, inR, Nat.reduceLT, Nat.reduceLeDiff, Nat.reduceEqDiff, Nat.reduceAdd, Nat.reduceSub, ↓reduceIte, Bool.false_eq_true, List.map_cons, List.map_nil, List.length_cons, List.length_nil, List.replicate, List.cons_append, List.nil_append, List.getElem?_cons_zero, List.getElem?_cons_succ, List.set, List.take_succ_cons, List.take_zero, List.drop_succ_cons, List.drop_zero, List.reverse_cons, List.reverse_nil, Int.reduceLE, Int.reduceLT, Int.reduceNeg, Int.reduceToNat, true_and, and_true, and_self, beq_iff_eq, Bool.and_eq_true, Bool.or_eq_true, or_false, false_or, or_true, true_or, and_false, false_and, hu_ho, ho_at, oc_at, oc_nc, oc_oc, adO_nc, rmO_nc, not_false_eq_true, Int.reduceEq, Int.pow_zero, Int.reducePow, Int.reduceMul, Int.reduceAdd, Int.reduceDiv, Int.reduceMod, Int.zero_add, Int.add_zero, Int.mul_one, Int.cast_ofNat_Int])
  refine ra_win (by omega) b0.1 ht b0.2 (fun y1 y2 y3 => ?_)
  have f1 := rgO_w (O := O) (t := t) (w := 0) (v := 1) (by omega) (by omega) b0.1
  have f2 := rgO_w (O := O) (t := t) (w := 0) (v := 2) (by omega) (by omega) b0.1
  unfold rmvN rmvO
  generalize rgO O t 0 = P at *
  refine ra_win (w := 1) (by omega) (by rw [f1.1]; exact b1.1) ht (fun z h1 h2 => by rw [f1.2 z h1 (by rw [f1.1] at h2; omega)]; exact b1.2 z h1 (by rw [f1.1] at h2; exact h2)) (fun y1 y2 y3 => ?_)
  have f3 := rgO_w (O := P) (t := t) (w := 1) (v := 2) (by omega) (by omega) (by rw [f1.1]; exact b1.1)
  generalize rgO P t 1 = P2 at *
  refine ra_win (w := 2) (by omega) (by rw [f3.1, f2.1]; exact b2.1) ht (fun z h1 h2 => by
    rw [f3.1, f2.1] at h2
    rw [f3.2 z h1 (by omega), f2.2 z h1 (by omega)]; exact b2.2 z h1 h2) (fun y1 y2 y3 => ?_)
  refine ra_end ⟨?_, rfl⟩
  simp only [Int.zero_add]
def rcV (O : Of) (t : Int) : Int := if 0 ≤ t ∧ t < 600 then (if rmvN O t = 0 then -5 else rmvN O t) else -1
def rcO (O : Of) (t : Int) : Of := if 0 ≤ t ∧ t < 600 then rmvO O t else O
set_option maxHeartbeats 4000000 in
set_option maxRecDepth 100000 in
theorem rgN_b {O : Of} {t w : Int} (hn : 0 ≤ O 11 w ∧ O 11 w ≤ 8) : 0 ≤ rgN O t w ∧ rgN O t w ≤ 8 := by
  have h := raW_b (f := O 10) (t := t) (w := w) (O 11 w).toNat
  unfold rgN
  omega
set_option maxHeartbeats 4000000 in
set_option maxRecDepth 100000 in
theorem rmvN_b {O : Of} {t : Int} (hR : RwB O) : 0 ≤ rmvN O t ∧ rmvN O t ≤ 24 := by
  have b0 := hR 0 (by omega) (by omega)
  have b1 := hR 1 (by omega) (by omega)
  have b2 := hR 2 (by omega) (by omega)
  have f1 := rgO_w (O := O) (t := t) (w := 0) (v := 1) (by omega) (by omega) b0.1
  have f2 := rgO_w (O := O) (t := t) (w := 0) (v := 2) (by omega) (by omega) b0.1
  have f3 := rgO_w (O := rgO O t 0) (t := t) (w := 1) (v := 2) (by omega) (by omega) (by rw [f1.1]; exact b1.1)
  have g0 := rgN_b (t := t) b0.1
  have g1 := rgN_b (O := rgO O t 0) (t := t) (w := 1) (by rw [f1.1]; exact b1.1)
  have g2 := rgN_b (O := rgO (rgO O t 0) t 1) (t := t) (w := 2) (by rw [f3.1, f2.1]; exact b2.1)
  unfold rmvN
  omega
set_option maxHeartbeats 4000000 in
set_option maxRecDepth 100000 in
theorem c_removeCustomers {S : Hp} {k : Nat} {O : Of} {t : Int} (hR : RwB O) (ht : tdR t) (Q : Option MV → Hp → Prop) : Wc 25 [.inr (k, 0), .inl t] (ho S k O) Q = Q (some (.inl (rcV O t))) (ho S k (rcO O t)) := by
  refine Wc_eq ?_ Q
  unfold Wc rcV rcO
  unfold tdR at ht
  by_cases h : 0 ≤ t ∧ t < 600
  · rw [if_pos h, if_pos h]
    have r1 := fun Q => c_removeAll (S := S) (k := k) hR h Q
    have hb := rmvN_b (t := t) hR
    by_cases h0 : rmvN O t = 0
    · rw [if_pos h0]
      refine vg_sound (fun _ _ => false) (fun m => m == 25 || m == 90) 60 _ _ _ _ _ _ ?_
      repeat' first | (with_reducible refine vT ?_ ?_; · omega) | (with_reducible refine vF ?_ ?_; · omega) | (with_reducible refine vI (fun _ => ?_) (fun _ => ?_)) | (simp (config := {maxSteps := 1000000}) (disch := (first | assumption | omega | (rw [hr_at]; assumption) | (rw [hr_at]; omega) | (repeat' first | assumption | decide | omega | refine FxB_nc ?_ ?_ | refine adO_B ?_ ?_ | refine rmO_B ?_ ?_))) only [f_X3_removeCustomers, f_X7_isTicket, wg_0, wg_s, wK_none, wK_N, wK_C, wK_R, wQ_some, wQ_none, stR, mZ, mC, stI, ini, mL, gI, gA, sI, sA, bi, gF, pF, kF, kT, kL, c2, mT, mR, f4, tsw, lsw, tgt, inR, Nat.reduceLT, Nat.reduceLeDiff, Nat.reduceEqDiff, Nat.reduceAdd, Nat.reduceSub, ↓reduceIte, Bool.false_eq_true, List.map_cons, List.map_nil, List.length_cons, List.length_nil, List.replicate, List.cons_append, List.nil_append, List.getElem?_cons_zero, List.getElem?_cons_succ, List.set, List.take_succ_cons, List.take_zero, List.drop_succ_cons, List.drop_zero, List.reverse_cons, List.reverse_nil, Int.reduceLE, Int.reduceLT, Int.reduceNeg, Int.reduceToNat, true_and, and_true, and_self, beq_iff_eq, Bool.and_eq_true, Bool.or_eq_true, or_false, false_or, or_true, true_or, and_false, false_and, hu_ho, ho_at, oc_at, oc_nc, oc_oc, adO_nc, rmO_nc, not_false_eq_true, Int.reduceEq, Int.pow_zero, Int.reducePow, Int.reduceMul, Int.reduceAdd, Int.reduceDiv, Int.reduceMod, Int.zero_add, Int.add_zero, Int.mul_one, Int.cast_ofNat_Int, r1])
    · rw [if_neg h0]
      refine vg_sound (fun _ _ => false) (fun m => m == 25 || m == 90) 60 _ _ _ _ _ _ ?_
      repeat' first | (with_reducible refine vT ?_ ?_; · omega) | (with_reducible refine vF ?_ ?_; · omega) | (with_reducible refine vI (fun _ => ?_) (fun _ => ?_)) | (simp (config := {maxSteps := 1000000}) (disch := (first | assumption | omega | (rw [hr_at]; assumption) | (rw [hr_at]; omega) | (repeat' first | assumption | decide | omega | refine FxB_nc ?_ ?_ | refine adO_B ?_ ?_ | refine rmO_B ?_ ?_))) only [f_X3_removeCustomers, f_X7_isTicket, wg_0, wg_s, wK_none, wK_N, wK_C, wK_R, wQ_some, wQ_none, stR, mZ, mC, stI, ini, mL, gI, gA, sI, sA, bi, gF, pF, kF, kT, kL, c2, mT, mR, f4, tsw, lsw, tgt, inR, Nat.reduceLT, Nat.reduceLeDiff, Nat.reduceEqDiff, Nat.reduceAdd, Nat.reduceSub, ↓reduceIte, Bool.false_eq_true, List.map_cons, List.map_nil, List.length_cons, List.length_nil, List.replicate, List.cons_append, List.nil_append, List.getElem?_cons_zero, List.getElem?_cons_succ, List.set, List.take_succ_cons, List.take_zero, List.drop_succ_cons, List.drop_zero, List.reverse_cons, List.reverse_nil, Int.reduceLE, Int.reduceLT, Int.reduceNeg, Int.reduceToNat, true_and, and_true, and_self, beq_iff_eq, Bool.and_eq_true, Bool.or_eq_true, or_false, false_or, or_true, true_or, and_false, false_and, hu_ho, ho_at, oc_at, oc_nc, oc_oc, adO_nc, rmO_nc, not_false_eq_true, Int.reduceEq, Int.pow_zero, Int.reducePow, Int.reduceMul, Int.reduceAdd, Int.reduceDiv, Int.reduceMod, Int.zero_add, Int.add_zero, Int.mul_one, Int.cast_ofNat_Int, r1])
  · rw [if_neg h, if_neg h]
    refine vg_sound (fun _ _ => false) (fun m => m == 25 || m == 90) 60 _ _ _ _ _ _ ?_
    repeat' first | (with_reducible refine vT ?_ ?_; · omega) | (with_reducible refine vF ?_ ?_; · omega) | (with_reducible refine vI (fun _ => ?_) (fun _ => ?_)) | (simp (config := {maxSteps := 1000000}) (disch := (first | assumption | omega | (rw [hr_at]; assumption) | (rw [hr_at]; omega) | (repeat' first | assumption | decide | omega | refine FxB_nc ?_ ?_ | refine adO_B ?_ ?_ | refine rmO_B ?_ ?_))) only [f_X3_removeCustomers, f_X7_isTicket, wg_0, wg_s, wK_none, wK_N, wK_C, wK_R, wQ_some, wQ_none, stR, mZ, mC, stI, ini, mL, gI, gA, sI, sA, bi, gF, pF, kF, kT, kL, c2, mT, mR, f4, tsw, lsw, tgt, inR, Nat.reduceLT, Nat.reduceLeDiff, Nat.reduceEqDiff, Nat.reduceAdd, Nat.reduceSub, ↓reduceIte, Bool.false_eq_true, List.map_cons, List.map_nil, List.length_cons, List.length_nil, List.replicate, List.cons_append, List.nil_append, List.getElem?_cons_zero, List.getElem?_cons_succ, List.set, List.take_succ_cons, List.take_zero, List.drop_succ_cons, List.drop_zero, List.reverse_cons, List.reverse_nil, Int.reduceLE, Int.reduceLT, Int.reduceNeg, Int.reduceToNat, true_and, and_true, and_self, beq_iff_eq, Bool.and_eq_true, Bool.or_eq_true, or_false, false_or, or_true, true_or, and_false, false_and, hu_ho, ho_at, oc_at, oc_nc, oc_oc, adO_nc, rmO_nc, not_false_eq_true, Int.reduceEq, Int.pow_zero, Int.reducePow, Int.reduceMul, Int.reduceAdd, Int.reduceDiv, Int.reduceMod, Int.zero_add, Int.add_zero, Int.mul_one, Int.cast_ofNat_Int])
