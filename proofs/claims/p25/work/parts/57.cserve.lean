/-! THE CLASS: windows serve -/
def tfR (f : Int → Int) (w : Int) : Nat → (Int → Int)
  | 0 => f
  | j + 1 => up (tfR f w j) (w * 8 + ((j : Int) + 1) - 1) (tfR f w j (w * 8 + ((j : Int) + 1)))
set_option maxHeartbeats 4000000 in
set_option maxRecDepth 100000 in
theorem tfR_at {f : Int → Int} {w : Int} : ∀ (n : Nat) (i : Int), tfR f w n i = if w * 8 ≤ i ∧ i < w * 8 + n then f (i + 1) else f i
  | 0, i => by
    rw [if_neg (by omega)]
    rfl
  | n + 1, i => by
    unfold tfR
    by_cases h : i = w * 8 + ((n : Int) + 1) - 1
    · rw [up_eq h, tfR_at n, if_neg (by omega), if_pos (by omega), h]
      congr 1
      omega
    · rw [up_ne h, tfR_at n]
      by_cases h2 : w * 8 ≤ i ∧ i < w * 8 + n
      · rw [if_pos h2, if_pos (by omega)]
      · rw [if_neg h2, if_neg (by omega)]
set_option maxHeartbeats 4000000 in
set_option maxRecDepth 100000 in
theorem tf_step {S : Hp} {k : Nat} {O : Of} {w n t z : Int} {Q : Option MV → Hp → Prop} (hw : 0 ≤ w ∧ w < 3) (hn : 0 ≤ n ∧ n ≤ 8) (hz : 1 ≤ z ∧ z < n) (h : Wp 54 30 [some (.inr (k, 9)), some (.inl w), some (.inl n), some (.inl (w * 8)), some (.inl t), some (.inl (z + 1))] [] (ho S k (oc O 10 (up (O 10) (w * 8 + z - 1) (O 10 (w * 8 + z))))) Q) : Wp 54 30 [some (.inr (k, 9)), some (.inl w), some (.inl n), some (.inl (w * 8)), some (.inl t), some (.inl z)] [] (ho S k O) Q := by
  refine vg_cut (fun m pc => (m == 54 && pc == 30)) (fun m => m == 54) 60 _ _ _ _ _ _ ?_
  repeat' first | (with_reducible refine vT ?_ ?_; · omega) | (with_reducible refine vF ?_ ?_; · omega) | (with_reducible refine vI (fun _ => ?_) (fun _ => ?_)) | (simp (config := {maxSteps := 1000000}) (disch := (first | assumption | omega | (rw [hr_at]; assumption) | (rw [hr_at]; omega) | (repeat' first | assumption | decide | omega | refine FxB_nc ?_ ?_ | refine adO_B ?_ ?_ | refine rmO_B ?_ ?_))) only [f_X6_takeFirst, wg_0, wg_s, wK_none, wK_N, wK_C, wK_R, wQ_some, wQ_none, stR, mZ, mC, stI, ini, mL, gI, gA, sI, sA, bi, gF, pF, kF, kT, kL, c2, mT, mR, f4, tsw, lsw, tgt, inR, Nat.reduceLT, Nat.reduceLeDiff, Nat.reduceEqDiff, Nat.reduceAdd, Nat.reduceSub, ↓reduceIte, Bool.false_eq_true, List.map_cons, List.map_nil, List.length_cons, List.length_nil, List.replicate, List.cons_append, List.nil_append, List.getElem?_cons_zero, List.getElem?_cons_succ, List.set, List.take_succ_cons, List.take_zero, List.drop_succ_cons, List.drop_zero, List.reverse_cons, List.reverse_nil, Int.reduceLE, Int.reduceLT, Int.reduceNeg, Int.reduceToNat, true_and, and_true, and_self, beq_iff_eq, Bool.and_eq_true, Bool.or_eq_true, or_false, false_or, or_true, true_or, and_false, false_and, hu_ho, ho_at, oc_at, oc_nc, oc_oc, adO_nc, rmO_nc, not_false_eq_true, Int.reduceEq, Int.pow_zero, Int.reducePow, Int.reduceMul, Int.reduceAdd, Int.reduceDiv, Int.reduceMod, Int.zero_add, Int.add_zero, Int.mul_one, Int.cast_ofNat_Int])
  exact h
set_option maxHeartbeats 4000000 in
set_option maxRecDepth 100000 in
theorem tf_end {S : Hp} {k : Nat} {O : Of} {w n t z : Int} {Q : Option MV → Hp → Prop} (hw : 0 ≤ w ∧ w < 3) (hn : 0 ≤ n ∧ n ≤ 8) (hz : z = n) (h : Q (some (.inl t)) (ho S k (oc O 11 (up (O 11) w (n - 1))))) : Wp 54 30 [some (.inr (k, 9)), some (.inl w), some (.inl n), some (.inl (w * 8)), some (.inl t), some (.inl z)] [] (ho S k O) Q := by
  refine vg_cut (fun m pc => (m == 54 && pc == 30)) (fun m => m == 54) 60 _ _ _ _ _ _ ?_
  repeat' first | (with_reducible refine vT ?_ ?_; · omega) | (with_reducible refine vF ?_ ?_; · omega) | (with_reducible refine vI (fun _ => ?_) (fun _ => ?_)) | (simp (config := {maxSteps := 1000000}) (disch := (first | assumption | omega | (rw [hr_at]; assumption) | (rw [hr_at]; omega) | (repeat' first | assumption | decide | omega | refine FxB_nc ?_ ?_ | refine adO_B ?_ ?_ | refine rmO_B ?_ ?_))) only [f_X6_takeFirst, wg_0, wg_s, wK_none, wK_N, wK_C, wK_R, wQ_some, wQ_none, stR, mZ, mC, stI, ini, mL, gI, gA, sI, sA, bi, gF, pF, kF, kT, kL, c2, mT, mR, f4, tsw, lsw, tgt, inR, Nat.reduceLT, Nat.reduceLeDiff, Nat.reduceEqDiff, Nat.reduceAdd, Nat.reduceSub, ↓reduceIte, Bool.false_eq_true, List.map_cons, List.map_nil, List.length_cons, List.length_nil, List.replicate, List.cons_append, List.nil_append, List.getElem?_cons_zero, List.getElem?_cons_succ, List.set, List.take_succ_cons, List.take_zero, List.drop_succ_cons, List.drop_zero, List.reverse_cons, List.reverse_nil, Int.reduceLE, Int.reduceLT, Int.reduceNeg, Int.reduceToNat, true_and, and_true, and_self, beq_iff_eq, Bool.and_eq_true, Bool.or_eq_true, or_false, false_or, or_true, true_or, and_false, false_and, hu_ho, ho_at, oc_at, oc_nc, oc_oc, adO_nc, rmO_nc, not_false_eq_true, Int.reduceEq, Int.pow_zero, Int.reducePow, Int.reduceMul, Int.reduceAdd, Int.reduceDiv, Int.reduceMod, Int.zero_add, Int.add_zero, Int.mul_one, Int.cast_ofNat_Int])
  exact h
def tfO (O : Of) (w : Int) : Of := oc (oc O 10 (tfR (O 10) w ((O 11 w).toNat - 1))) 11 (up (O 11) w (O 11 w - 1))
set_option maxHeartbeats 4000000 in
set_option maxRecDepth 100000 in
theorem c_takeFirst {S : Hp} {k : Nat} {O : Of} {w : Int} (hw : 0 ≤ w ∧ w < 3) (hn : 1 ≤ O 11 w ∧ O 11 w ≤ 8) (Q : Option MV → Hp → Prop) : Wc 54 [.inr (k, 9), .inl w] (ho S k O) Q = Q (some (.inl (O 10 (w * 8)))) (ho S k (tfO O w)) := by
  refine Wc_eq ?_ Q
  unfold Wc
  refine vg_sound (fun m pc => (m == 54 && pc == 30)) (fun m => m == 54) 30 _ _ _ _ _ _ ?_
  repeat' first | (with_reducible refine vT ?_ ?_; · omega) | (with_reducible refine vF ?_ ?_; · omega) | (with_reducible refine vI (fun _ => ?_) (fun _ => ?_)) | (simp (config := {maxSteps := 1000000}) (disch := (first | assumption | omega | (rw [hr_at]; assumption) | (rw [hr_at]; omega) | (repeat' first | assumption | decide | omega | refine FxB_nc ?_ ?_ | refine adO_B ?_ ?_ | refine rmO_B ?_ ?_))) only [f_X6_takeFirst, wg_0, wg_s, wK_none, wK_N, wK_C, wK_R, wQ_some, wQ_none, stR, mZ, mC, stI, ini, mL, gI, gA, sI, sA, bi, gF, pF, kF, kT, kL, c2, mT, mR, f4, tsw, lsw, tgt, inR, Nat.reduceLT, Nat.reduceLeDiff, Nat.reduceEqDiff, Nat.reduceAdd, Nat.reduceSub, ↓reduceIte, Bool.false_eq_true, List.map_cons, List.map_nil, List.length_cons, List.length_nil, List.replicate, List.cons_append, List.nil_append, List.getElem?_cons_zero, List.getElem?_cons_succ, List.set, List.take_succ_cons, List.take_zero, List.drop_succ_cons, List.drop_zero, List.reverse_cons, List.reverse_nil, Int.reduceLE, Int.reduceLT, Int.reduceNeg, Int.reduceToNat, true_and, and_true, and_self, beq_iff_eq, Bool.and_eq_true, Bool.or_eq_true, or_false, false_or, or_true, true_or, and_false, false_and, hu_ho, ho_at, oc_at, oc_nc, oc_oc, adO_nc, rmO_nc, not_false_eq_true, Int.reduceEq, Int.pow_zero, Int.reducePow, Int.reduceMul, Int.reduceAdd, Int.reduceDiv, Int.reduceMod, Int.zero_add, Int.add_zero, Int.mul_one, Int.cast_ofNat_Int])
  obtain ⟨N, hN⟩ : ∃ N : Nat, N = (O 11 w).toNat - 1 := ⟨_, rfl⟩
  unfold tfO
  rw [← hN]
  refine wp_for (fun j => [some (.inr (k, 9)), some (.inl w), some (.inl (O 11 w)), some (.inl (w * 8)), some (.inl (O 10 (w * 8))), some (.inl ((j : Int) + 1))]) (fun j => ho S k (oc O 10 (tfR (O 10) w j))) N rfl (by unfold tfR; rw [oc_id]) (fun j hj h => ?_) ?_
  · refine tf_step hw (by omega) (by omega) ?_
    rw [Int.natCast_add] at h
    rw [oc_oc, oc_at]
    exact h
  · refine tf_end hw (by omega) (by omega) ?_
    rw [oc_nc (by decide)]
    exact ⟨rfl, rfl⟩
def sv1O (O : Of) (w : Int) : Of := if ¬ O 12 w = -5 ∧ O 1 2 ≤ O 13 w then awO (frO O w) w 6 else O
def swO (O : Of) (w t : Int) : Of := oc (oc (snO O 1 w t (O 0 0 + O 1 1)) 12 (up (O 12) w t)) 13 (up (O 13) w 0)
def sv2O (O : Of) (w t : Int) : Of := if rsO O w t = 0 then (if O 1 0 = 1 ∧ ¬ t % 3 = w then swO O w t else pyO O w t) else awO O w (rsO O w t)
def svO (O : Of) (w : Int) : Of := if sv1O O w 12 w = -5 then (if sv1O O w 11 w = 0 then sv1O O w else sv2O (tfO (sv1O O w) w) w (sv1O O w 10 (w * 8))) else sv1O O w
def SvP (O : Of) (w : Int) : Prop := FxB O ∧ WnB O ∧ WgB O ∧ (0 ≤ O 18 0 ∧ O 18 0 < 149) ∧ (0 ≤ O 0 0 ∧ O 0 0 < 100000) ∧ (∀ t : Int, 0 ≤ t → t < 600 → 0 ≤ O 4 t ∧ O 4 t < 1000000) ∧ (0 ≤ O 1 0 ∧ O 1 0 ≤ 2) ∧ (0 ≤ O 1 2 ∧ O 1 2 ≤ 100) ∧ (-5 ≤ O 12 w ∧ O 12 w < 600) ∧ (O 12 w = -5 ∨ (0 ≤ O 13 w ∧ O 13 w < 1000000)) ∧ (0 ≤ O 11 w ∧ O 11 w ≤ 8) ∧ (O 11 w = 0 ∨ (0 ≤ O 10 (w * 8) ∧ O 10 (w * 8) < 600))
set_option maxHeartbeats 4000000 in
set_option maxRecDepth 100000 in
theorem SvP_nc {O O' : Of} {w : Int} (h : SvP O w) (e : ∀ c : Nat, ¬ c = 10 ∧ ¬ c = 11 ∧ ¬ c = 12 ∧ ¬ c = 13 ∧ ¬ c = 16 ∧ ¬ c = 17 → O' c = O c) : FxB O' ∧ WnB O' ∧ WgB O' ∧ (0 ≤ O' 18 0 ∧ O' 18 0 < 149) ∧ (0 ≤ O' 0 0 ∧ O' 0 0 < 100000) ∧ (∀ t : Int, 0 ≤ t → t < 600 → 0 ≤ O' 4 t ∧ O' 4 t < 1000000) ∧ (0 ≤ O' 1 0 ∧ O' 1 0 ≤ 2) := by
  obtain ⟨h1, h2, h3, h4, h5, h6, h7, -⟩ := h
  unfold FxB WnB WgB
  rw [e 3 (by decide), e 6 (by decide), e 8 (by decide), e 7 (by decide), e 18 (by decide), e 0 (by decide), e 4 (by decide), e 1 (by decide)]
  exact ⟨h1, h2, h3, h4, h5, h6, h7⟩
set_option maxHeartbeats 4000000 in
set_option maxRecDepth 100000 in
theorem sv1O_nc {O : Of} {w : Int} {c : Nat} (h : ¬ c = 12 ∧ ¬ c = 16 ∧ ¬ c = 17) : sv1O O w c = O c := by
  unfold sv1O awO frO
  split
  · rw [oc_nc h.2.2, oc_nc h.2.1, oc_nc h.1]
  · rfl
set_option maxHeartbeats 4000000 in
set_option maxRecDepth 100000 in
theorem tfO_nc {O : Of} {w : Int} {c : Nat} (h : ¬ c = 10 ∧ ¬ c = 11) : tfO O w c = O c := by
  unfold tfO
  rw [oc_nc h.2, oc_nc h.1]
set_option maxHeartbeats 4000000 in
set_option maxRecDepth 100000 in
theorem rsO_b (O : Of) (w t : Int) : 0 ≤ rsO O w t ∧ rsO O w t ≤ 5 := by
  unfold rsO
  repeat' split
  all_goals omega
/- a ticket served -/
set_option maxHeartbeats 4000000 in
set_option maxRecDepth 100000 in
theorem c_serve2 {S : Hp} {k : Nat} {O : Of} {w t : Int} {Q : Option MV → Hp → Prop} (hP : FxB O ∧ WnB O ∧ WgB O ∧ (0 ≤ O 18 0 ∧ O 18 0 < 149) ∧ (0 ≤ O 0 0 ∧ O 0 0 < 100000) ∧ (∀ t : Int, 0 ≤ t → t < 600 → 0 ≤ O 4 t ∧ O 4 t < 1000000) ∧ (0 ≤ O 1 0 ∧ O 1 0 ≤ 2)) (hw : 0 ≤ w ∧ w < 3) (ht : 0 ≤ t ∧ t < 600) (h : Q none (ho S k (sv2O O w t))) (y : Option MV) : Wp 34 66 [some (.inr (k, 0)), some (.inl w), some (.inl t), y] [] (ho S k O) Q := by
  obtain ⟨h1, h2, h3, h4, h5, h6, h7⟩ := hP
  have r1 := fun Q => c_reason (S := S) (k := k) (O := O) h1 h2 h3 h7 hw ht Q
  have hb := rsO_b O w t
  unfold sv2O at h
  by_cases c1 : rsO O w t = 0
  · rw [if_pos c1] at h
    rw [c1] at r1
    by_cases c3 : O 1 0 = 1 ∧ ¬ t % 3 = w
    · rw [if_pos c3] at h
      unfold swO at h
      have e1 : snO O 1 w t (O 0 0 + O 1 1) 12 = O 12 := snO_nc (by decide)
      have e2 : snO O 1 w t (O 0 0 + O 1 1) 13 = O 13 := snO_nc (by decide)
      have r2 := fun Q => c_send (S := S) (k := k) (O := O) (kind := 1) (w := w) (t := t) (d := O 0 0 + O 1 1) (by omega) Q
      refine vg_cut (fun _ _ => false) (fun m => m == 34 || m == 59) 100 _ _ _ _ _ _ ?_
      repeat' first | (with_reducible refine vT ?_ ?_; · omega) | (with_reducible refine vF ?_ ?_; · omega) | (with_reducible refine vI (fun _ => ?_) (fun _ => ?_)) | (simp (config := {maxSteps := 1000000}) (disch := (first | assumption | omega | (rw [hr_at]; assumption) | (rw [hr_at]; omega) | (repeat' first | assumption | decide | omega | refine FxB_nc ?_ ?_ | refine adO_B ?_ ?_ | refine rmO_B ?_ ?_))) only [f_X3_serve, f_X6_startWaiting, wg_0, wg_s, wK_none, wK_N, wK_C, wK_R, wQ_some, wQ_none, stR, mZ, mC, stI, ini, mL, gI, gA, sI, sA, bi, gF, pF, kF, kT, kL, c2, mT, mR, f4, tsw, lsw, tgt, inR, Nat.reduceLT, Nat.reduceLeDiff, Nat.reduceEqDiff, Nat.reduceAdd, Nat.reduceSub, ↓reduceIte, Bool.false_eq_true, List.map_cons, List.map_nil, List.length_cons, List.length_nil, List.replicate, List.cons_append, List.nil_append, List.getElem?_cons_zero, List.getElem?_cons_succ, List.set, List.take_succ_cons, List.take_zero, List.drop_succ_cons, List.drop_zero, List.reverse_cons, List.reverse_nil, Int.reduceLE, Int.reduceLT, Int.reduceNeg, Int.reduceToNat, true_and, and_true, and_self, beq_iff_eq, Bool.and_eq_true, Bool.or_eq_true, or_false, false_or, or_true, true_or, and_false, false_and, hu_ho, ho_at, oc_at, oc_nc, oc_oc, adO_nc, rmO_nc, not_false_eq_true, Int.reduceEq, Int.pow_zero, Int.reducePow, Int.reduceMul, Int.reduceAdd, Int.reduceDiv, Int.reduceMod, Int.zero_add, Int.add_zero, Int.mul_one, Int.cast_ofNat_Int, r1, r2, e1, e2])
      exact h
    · rw [if_neg c3] at h
      have r2 := fun Q => c_pay (S := S) (k := k) (O := O) ⟨h1, h2, h4, h5, h6 t ht.1 ht.2⟩ hw ht Q
      refine vg_cut (fun _ _ => false) (fun m => m == 34) 100 _ _ _ _ _ _ ?_
      repeat' first | (with_reducible refine vT ?_ ?_; · omega) | (with_reducible refine vF ?_ ?_; · omega) | (with_reducible refine vI (fun _ => ?_) (fun _ => ?_)) | (simp (config := {maxSteps := 1000000}) (disch := (first | assumption | omega | (rw [hr_at]; assumption) | (rw [hr_at]; omega) | (repeat' first | assumption | decide | omega | refine FxB_nc ?_ ?_ | refine adO_B ?_ ?_ | refine rmO_B ?_ ?_))) only [f_X3_serve, wg_0, wg_s, wK_none, wK_N, wK_C, wK_R, wQ_some, wQ_none, stR, mZ, mC, stI, ini, mL, gI, gA, sI, sA, bi, gF, pF, kF, kT, kL, c2, mT, mR, f4, tsw, lsw, tgt, inR, Nat.reduceLT, Nat.reduceLeDiff, Nat.reduceEqDiff, Nat.reduceAdd, Nat.reduceSub, ↓reduceIte, Bool.false_eq_true, List.map_cons, List.map_nil, List.length_cons, List.length_nil, List.replicate, List.cons_append, List.nil_append, List.getElem?_cons_zero, List.getElem?_cons_succ, List.set, List.take_succ_cons, List.take_zero, List.drop_succ_cons, List.drop_zero, List.reverse_cons, List.reverse_nil, Int.reduceLE, Int.reduceLT, Int.reduceNeg, Int.reduceToNat, true_and, and_true, and_self, beq_iff_eq, Bool.and_eq_true, Bool.or_eq_true, or_false, false_or, or_true, true_or, and_false, false_and, hu_ho, ho_at, oc_at, oc_nc, oc_oc, adO_nc, rmO_nc, not_false_eq_true, Int.reduceEq, Int.pow_zero, Int.reducePow, Int.reduceMul, Int.reduceAdd, Int.reduceDiv, Int.reduceMod, Int.zero_add, Int.add_zero, Int.mul_one, Int.cast_ofNat_Int, r1, r2])
      all_goals exact h
  · rw [if_neg c1] at h
    unfold awO at h
    refine vg_cut (fun _ _ => false) (fun m => m == 34 || m == 61) 100 _ _ _ _ _ _ ?_
    repeat' first | (with_reducible refine vT ?_ ?_; · omega) | (with_reducible refine vF ?_ ?_; · omega) | (with_reducible refine vI (fun _ => ?_) (fun _ => ?_)) | (simp (config := {maxSteps := 1000000}) (disch := (first | assumption | omega | (rw [hr_at]; assumption) | (rw [hr_at]; omega) | (repeat' first | assumption | decide | omega | refine FxB_nc ?_ ?_ | refine adO_B ?_ ?_ | refine rmO_B ?_ ?_))) only [f_X3_serve, f_X6_sendAway, wg_0, wg_s, wK_none, wK_N, wK_C, wK_R, wQ_some, wQ_none, stR, mZ, mC, stI, ini, mL, gI, gA, sI, sA, bi, gF, pF, kF, kT, kL, c2, mT, mR, f4, tsw, lsw, tgt, inR, Nat.reduceLT, Nat.reduceLeDiff, Nat.reduceEqDiff, Nat.reduceAdd, Nat.reduceSub, ↓reduceIte, Bool.false_eq_true, List.map_cons, List.map_nil, List.length_cons, List.length_nil, List.replicate, List.cons_append, List.nil_append, List.getElem?_cons_zero, List.getElem?_cons_succ, List.set, List.take_succ_cons, List.take_zero, List.drop_succ_cons, List.drop_zero, List.reverse_cons, List.reverse_nil, Int.reduceLE, Int.reduceLT, Int.reduceNeg, Int.reduceToNat, true_and, and_true, and_self, beq_iff_eq, Bool.and_eq_true, Bool.or_eq_true, or_false, false_or, or_true, true_or, and_false, false_and, hu_ho, ho_at, oc_at, oc_nc, oc_oc, adO_nc, rmO_nc, not_false_eq_true, Int.reduceEq, Int.pow_zero, Int.reducePow, Int.reduceMul, Int.reduceAdd, Int.reduceDiv, Int.reduceMod, Int.zero_add, Int.add_zero, Int.mul_one, Int.cast_ofNat_Int, r1])
    exact h
set_option maxHeartbeats 4000000 in
set_option maxRecDepth 100000 in
theorem c_serve1 {S : Hp} {k : Nat} {O : Of} {w : Int} {Q : Option MV → Hp → Prop} (hP : SvP O w) (hw : 0 ≤ w ∧ w < 3) (h12 : O 12 w = -5) (h : Q none (ho S k (if O 11 w = 0 then O else sv2O (tfO O w) w (O 10 (w * 8))))) (y1 y2 : Option MV) : Wp 34 38 [some (.inr (k, 0)), some (.inl w), y1, y2] [] (ho S k O) Q := by
  have hP2 := SvP_nc (O' := tfO O w) hP (fun c hc => tfO_nc ⟨hc.1, hc.2.1⟩)
  obtain ⟨-, -, -, -, -, -, -, -, h8, h9, h10, h11⟩ := hP
  by_cases hn : O 11 w = 0
  · rw [if_pos hn] at h
    refine vg_cut (fun _ _ => false) (fun m => m == 34 || m == 57 || m == 54) 100 _ _ _ _ _ _ ?_
    repeat' first | (with_reducible refine vT ?_ ?_; · omega) | (with_reducible refine vF ?_ ?_; · omega) | (with_reducible refine vI (fun _ => ?_) (fun _ => ?_)) | (simp (config := {maxSteps := 1000000}) (disch := (first | assumption | omega | (rw [hr_at]; assumption) | (rw [hr_at]; omega) | (repeat' first | assumption | decide | omega | refine FxB_nc ?_ ?_ | refine adO_B ?_ ?_ | refine rmO_B ?_ ?_))) only [f_X3_serve, f_X6_isWaiting, f_X6_takeFirst, wg_0, wg_s, wK_none, wK_N, wK_C, wK_R, wQ_some, wQ_none, stR, mZ, mC, stI, ini, mL, gI, gA, sI, sA, bi, gF, pF, kF, kT, kL, c2, mT, mR, f4, tsw, lsw, tgt, inR, Nat.reduceLT, Nat.reduceLeDiff, Nat.reduceEqDiff, Nat.reduceAdd, Nat.reduceSub, ↓reduceIte, Bool.false_eq_true, List.map_cons, List.map_nil, List.length_cons, List.length_nil, List.replicate, List.cons_append, List.nil_append, List.getElem?_cons_zero, List.getElem?_cons_succ, List.set, List.take_succ_cons, List.take_zero, List.drop_succ_cons, List.drop_zero, List.reverse_cons, List.reverse_nil, Int.reduceLE, Int.reduceLT, Int.reduceNeg, Int.reduceToNat, true_and, and_true, and_self, beq_iff_eq, Bool.and_eq_true, Bool.or_eq_true, or_false, false_or, or_true, true_or, and_false, false_and, hu_ho, ho_at, oc_at, oc_nc, oc_oc, adO_nc, rmO_nc, not_false_eq_true, Int.reduceEq, Int.pow_zero, Int.reducePow, Int.reduceMul, Int.reduceAdd, Int.reduceDiv, Int.reduceMod, Int.zero_add, Int.add_zero, Int.mul_one, Int.cast_ofNat_Int])
    exact h
  · rw [if_neg hn] at h
    have r1 := fun Q => c_takeFirst (S := S) (k := k) (O := O) hw (by omega) Q
    have g := c_serve2 (S := S) (k := k) (Q := Q) hP2 hw (t := O 10 (w * 8)) (by omega) h y2
    refine vg_cut (fun m pc => (m == 34 && pc == 66)) (fun m => m == 34 || m == 57) 100 _ _ _ _ _ _ ?_
    repeat' first | (with_reducible refine vT ?_ ?_; · omega) | (with_reducible refine vF ?_ ?_; · omega) | (with_reducible refine vI (fun _ => ?_) (fun _ => ?_)) | (simp (config := {maxSteps := 1000000}) (disch := (first | assumption | omega | (rw [hr_at]; assumption) | (rw [hr_at]; omega) | (repeat' first | assumption | decide | omega | refine FxB_nc ?_ ?_ | refine adO_B ?_ ?_ | refine rmO_B ?_ ?_))) only [f_X3_serve, f_X6_isWaiting, wg_0, wg_s, wK_none, wK_N, wK_C, wK_R, wQ_some, wQ_none, stR, mZ, mC, stI, ini, mL, gI, gA, sI, sA, bi, gF, pF, kF, kT, kL, c2, mT, mR, f4, tsw, lsw, tgt, inR, Nat.reduceLT, Nat.reduceLeDiff, Nat.reduceEqDiff, Nat.reduceAdd, Nat.reduceSub, ↓reduceIte, Bool.false_eq_true, List.map_cons, List.map_nil, List.length_cons, List.length_nil, List.replicate, List.cons_append, List.nil_append, List.getElem?_cons_zero, List.getElem?_cons_succ, List.set, List.take_succ_cons, List.take_zero, List.drop_succ_cons, List.drop_zero, List.reverse_cons, List.reverse_nil, Int.reduceLE, Int.reduceLT, Int.reduceNeg, Int.reduceToNat, true_and, and_true, and_self, beq_iff_eq, Bool.and_eq_true, Bool.or_eq_true, or_false, false_or, or_true, true_or, and_false, false_and, hu_ho, ho_at, oc_at, oc_nc, oc_oc, adO_nc, rmO_nc, not_false_eq_true, Int.reduceEq, Int.pow_zero, Int.reducePow, Int.reduceMul, Int.reduceAdd, Int.reduceDiv, Int.reduceMod, Int.zero_add, Int.add_zero, Int.mul_one, Int.cast_ofNat_Int, r1])
    exact g
set_option maxHeartbeats 4000000 in
set_option maxRecDepth 100000 in
theorem c_serve {S : Hp} {k : Nat} {O : Of} {w : Int} (hP : SvP O w) (hw : 0 ≤ w ∧ w < 3) (Q : Option MV → Hp → Prop) : Wc 34 [.inr (k, 0), .inl w] (ho S k O) Q = Q none (ho S k (svO O w)) := by
  refine Wc_eq ?_ Q
  unfold Wc
  have h8 := hP.2.2.2.2.2.2.2.2.1
  have h9 := hP.2.2.2.2.2.2.2.2.2.1
  have h2 := hP.2.2.2.2.2.2.2.1
  have hP0 := hP
  obtain ⟨g1, g2, g3, g4, g5, g6, g7, g8, g9, g10, g11, g12⟩ := hP0
  unfold svO sv1O
  by_cases hc : ¬ O 12 w = -5 ∧ O 1 2 ≤ O 13 w
  · rw [if_pos hc]
    have e12 : awO (frO O w) w 6 12 w = -5 := by
      unfold awO frO
      rw [oc_nc (by decide), oc_nc (by decide), oc_at, up_eq rfl]
    have enc : ∀ c : Nat, ¬ c = 10 ∧ ¬ c = 11 ∧ ¬ c = 12 ∧ ¬ c = 13 ∧ ¬ c = 16 ∧ ¬ c = 17 → awO (frO O w) w 6 c = O c := by
      intro c hc
      unfold awO frO
      rw [oc_nc hc.2.2.2.2.2, oc_nc hc.2.2.2.2.1, oc_nc hc.2.2.1]
    have e10 : awO (frO O w) w 6 10 = O 10 := by unfold awO frO; rw [oc_nc (by decide), oc_nc (by decide), oc_nc (by decide)]
    have e11 : awO (frO O w) w 6 11 = O 11 := by unfold awO frO; rw [oc_nc (by decide), oc_nc (by decide), oc_nc (by decide)]
    have hS : SvP (awO (frO O w) w 6) w := by
      obtain ⟨a1, a2, a3, a4, a5, a6, a7⟩ := SvP_nc hP enc
      refine ⟨a1, a2, a3, a4, a5, a6, a7, ?_, ?_, ?_, ?_, ?_⟩
      · rw [enc 1 (by decide)]; exact g8
      · rw [e12]; decide
      · exact Or.inl e12
      · rw [e11]; exact g11
      · rw [e11, e10]; exact g12
    have g := fun y1 y2 => c_serve1 (S := S) (k := k) (Q := fun r T => r = none ∧ T = ho S k (if awO (frO O w) w 6 11 w = 0 then awO (frO O w) w 6 else sv2O (tfO (awO (frO O w) w 6) w) w (awO (frO O w) w 6 10 (w * 8)))) hS hw e12 ⟨rfl, rfl⟩ y1 y2
    rw [if_pos e12]
    have f1 : oc O 12 (up (O 12) w (-5)) = frO O w := rfl
    have f2 : oc (oc (frO O w) 16 (up (O 16) w (O 16 w + 1))) 17 (up (O 17) w 6) = awO (frO O w) w 6 := by
      unfold awO
      have e3 : frO O w 16 = O 16 := oc_nc (by decide)
      have e4 : frO O w 17 = O 17 := oc_nc (by decide)
      rw [e3, e4]
    have f3 : frO O w 16 = O 16 := oc_nc (by decide)
    have f4' : frO O w 17 = O 17 := oc_nc (by decide)
    refine vg_sound (fun m pc => (m == 34 && pc == 38)) (fun m => m == 34 || m == 58 || m == 61) 100 _ _ _ _ _ _ ?_
    repeat' first | (with_reducible refine vT ?_ ?_; · omega) | (with_reducible refine vF ?_ ?_; · omega) | (with_reducible refine vI (fun _ => ?_) (fun _ => ?_)) | (simp (config := {maxSteps := 1000000}) (disch := (first | assumption | omega | (rw [hr_at]; assumption) | (rw [hr_at]; omega) | (repeat' first | assumption | decide | omega | refine FxB_nc ?_ ?_ | refine adO_B ?_ ?_ | refine rmO_B ?_ ?_))) only [f_X3_serve, f_X6_waitsTooLong, f_X6_sendAway, wg_0, wg_s, wK_none, wK_N, wK_C, wK_R, wQ_some, wQ_none, stR, mZ, mC, stI, ini, mL, gI, gA, sI, sA, bi, gF, pF, kF, kT, kL, c2, mT, mR, f4, tsw, lsw, tgt, inR, Nat.reduceLT, Nat.reduceLeDiff, Nat.reduceEqDiff, Nat.reduceAdd, Nat.reduceSub, ↓reduceIte, Bool.false_eq_true, List.map_cons, List.map_nil, List.length_cons, List.length_nil, List.replicate, List.cons_append, List.nil_append, List.getElem?_cons_zero, List.getElem?_cons_succ, List.set, List.take_succ_cons, List.take_zero, List.drop_succ_cons, List.drop_zero, List.reverse_cons, List.reverse_nil, Int.reduceLE, Int.reduceLT, Int.reduceNeg, Int.reduceToNat, true_and, and_true, and_self, beq_iff_eq, Bool.and_eq_true, Bool.or_eq_true, or_false, false_or, or_true, true_or, and_false, false_and, hu_ho, ho_at, oc_at, oc_nc, oc_oc, adO_nc, rmO_nc, not_false_eq_true, Int.reduceEq, Int.pow_zero, Int.reducePow, Int.reduceMul, Int.reduceAdd, Int.reduceDiv, Int.reduceMod, Int.zero_add, Int.add_zero, Int.mul_one, Int.cast_ofNat_Int, f1, f2, f3, f4'])
    exact g _ _
  · rw [if_neg hc]
    by_cases h5 : O 12 w = -5
    · rw [if_pos h5]
      have g := fun y1 y2 => c_serve1 (S := S) (k := k) (Q := fun r T => r = none ∧ T = ho S k (if O 11 w = 0 then O else sv2O (tfO O w) w (O 10 (w * 8)))) hP hw h5 ⟨rfl, rfl⟩ y1 y2
      refine vg_sound (fun m pc => (m == 34 && pc == 38)) (fun m => m == 34 || m == 58) 100 _ _ _ _ _ _ ?_
      repeat' first | (with_reducible refine vT ?_ ?_; · omega) | (with_reducible refine vF ?_ ?_; · omega) | (with_reducible refine vI (fun _ => ?_) (fun _ => ?_)) | (simp (config := {maxSteps := 1000000}) (disch := (first | assumption | omega | (rw [hr_at]; assumption) | (rw [hr_at]; omega) | (repeat' first | assumption | decide | omega | refine FxB_nc ?_ ?_ | refine adO_B ?_ ?_ | refine rmO_B ?_ ?_))) only [f_X3_serve, f_X6_waitsTooLong, wg_0, wg_s, wK_none, wK_N, wK_C, wK_R, wQ_some, wQ_none, stR, mZ, mC, stI, ini, mL, gI, gA, sI, sA, bi, gF, pF, kF, kT, kL, c2, mT, mR, f4, tsw, lsw, tgt, inR, Nat.reduceLT, Nat.reduceLeDiff, Nat.reduceEqDiff, Nat.reduceAdd, Nat.reduceSub, ↓reduceIte, Bool.false_eq_true, List.map_cons, List.map_nil, List.length_cons, List.length_nil, List.replicate, List.cons_append, List.nil_append, List.getElem?_cons_zero, List.getElem?_cons_succ, List.set, List.take_succ_cons, List.take_zero, List.drop_succ_cons, List.drop_zero, List.reverse_cons, List.reverse_nil, Int.reduceLE, Int.reduceLT, Int.reduceNeg, Int.reduceToNat, true_and, and_true, and_self, beq_iff_eq, Bool.and_eq_true, Bool.or_eq_true, or_false, false_or, or_true, true_or, and_false, false_and, hu_ho, ho_at, oc_at, oc_nc, oc_oc, adO_nc, rmO_nc, not_false_eq_true, Int.reduceEq, Int.pow_zero, Int.reducePow, Int.reduceMul, Int.reduceAdd, Int.reduceDiv, Int.reduceMod, Int.zero_add, Int.add_zero, Int.mul_one, Int.cast_ofNat_Int])
      exact g _ _
    · rw [if_neg h5]
      refine vg_sound (fun _ _ => false) (fun m => m == 34 || m == 58 || m == 57) 100 _ _ _ _ _ _ ?_
      repeat' first | (with_reducible refine vT ?_ ?_; · omega) | (with_reducible refine vF ?_ ?_; · omega) | (with_reducible refine vI (fun _ => ?_) (fun _ => ?_)) | (simp (config := {maxSteps := 1000000}) (disch := (first | assumption | omega | (rw [hr_at]; assumption) | (rw [hr_at]; omega) | (repeat' first | assumption | decide | omega | refine FxB_nc ?_ ?_ | refine adO_B ?_ ?_ | refine rmO_B ?_ ?_))) only [f_X3_serve, f_X6_waitsTooLong, f_X6_isWaiting, wg_0, wg_s, wK_none, wK_N, wK_C, wK_R, wQ_some, wQ_none, stR, mZ, mC, stI, ini, mL, gI, gA, sI, sA, bi, gF, pF, kF, kT, kL, c2, mT, mR, f4, tsw, lsw, tgt, inR, Nat.reduceLT, Nat.reduceLeDiff, Nat.reduceEqDiff, Nat.reduceAdd, Nat.reduceSub, ↓reduceIte, Bool.false_eq_true, List.map_cons, List.map_nil, List.length_cons, List.length_nil, List.replicate, List.cons_append, List.nil_append, List.getElem?_cons_zero, List.getElem?_cons_succ, List.set, List.take_succ_cons, List.take_zero, List.drop_succ_cons, List.drop_zero, List.reverse_cons, List.reverse_nil, Int.reduceLE, Int.reduceLT, Int.reduceNeg, Int.reduceToNat, true_and, and_true, and_self, beq_iff_eq, Bool.and_eq_true, Bool.or_eq_true, or_false, false_or, or_true, true_or, and_false, false_and, hu_ho, ho_at, oc_at, oc_nc, oc_oc, adO_nc, rmO_nc, not_false_eq_true, Int.reduceEq, Int.pow_zero, Int.reducePow, Int.reduceMul, Int.reduceAdd, Int.reduceDiv, Int.reduceMod, Int.zero_add, Int.add_zero, Int.mul_one, Int.cast_ofNat_Int])
