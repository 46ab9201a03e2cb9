/-! THE LAW'S BODY: from the inner checks back to the loop's head -/
def Nn (n : Nat) : Lc := List.replicate n none
/- at the head: rounds e are done -/
def IvM (M : Int → Int) (e : Int) : Prop := M 0 ≤ 100 * e
def Inv (Ln : Nat) (xs : Nat → Int32) (e : Int) (S : Hp) : Prop := LQ S ∧ (∃ M, GM (S (nw S)) M ∧ IvM M e) ∧ S 0 41 0 = Ln ∧ ∀ j, S 0 40 j = xI xs j
abbrev LHd (P : PT) (kk : Nat) (e : Int) (S : Hp) : Prop := LW P kk 0 48 [some (.inr (0, 40)), some (.inr (0, 23)), some (.inl e), none, none, none, none, none, none, none, none, none, none, none, none, none, none, none] [] S
section BODY
variable {P : PT} {kk al : Nat} {S : Hp} {M : Int → Int} {e : Int}
set_option maxHeartbeats 4000000 in
set_option maxRecDepth 100000 in
theorem vM_o (al : Nat) : vM al (.inr (0, 23)) := Or.inl ⟨by decide, by rw [kK_lo (by decide)]; decide⟩
set_option maxHeartbeats 4000000 in
set_option maxRecDepth 100000 in
theorem vM_s0 (al : Nat) : vM al (.inr (0, 40)) := Or.inr ⟨by decide, by decide, rfl⟩
/- forgetting all but script, office, round -/
set_option maxHeartbeats 4000000 in
set_option maxRecDepth 100000 in
theorem LW_f3 {pc : Nat} {y3 y4 y5 y6 y7 y8 y9 ya yb yc yd ye yf yg yh : Option MV} {kk' : Nat} (hk : kk ≤ kk') (h : LW P kk 0 pc [some (.inr (0, 40)), some (.inr (0, 23)), some (.inl e), none, none, none, none, none, none, none, none, none, none, none, none, none, none, none] [] S) : LW P kk' al pc [some (.inr (0, 40)), some (.inr (0, 23)), some (.inl e), y3, y4, y5, y6, y7, y8, y9, ya, yb, yc, yd, ye, yf, yg, yh] [] S := by
  refine LW_weak (L' := [some (.inr (0, 40)), some (.inr (0, 23)), some (.inl e), none, none, none, none, none, none, none, none, none, none, none, none, none, none, none]) hk (Nat.zero_le _) rfl (fun i v hv => ?_) (fun v hv => by cases hv) h
  match i, hv with
  | 0, hv => cases hv; exact ⟨rfl, vM_s0 0⟩
  | 1, hv => cases hv; exact ⟨rfl, vM_o 0⟩
  | 2, hv => cases hv; exact ⟨rfl, trivial⟩
  | 3, hv => cases hv
  | 4, hv => cases hv
  | 5, hv => cases hv
  | 6, hv => cases hv
  | 7, hv => cases hv
  | 8, hv => cases hv
  | 9, hv => cases hv
  | 10, hv => cases hv
  | 11, hv => cases hv
  | 12, hv => cases hv
  | 13, hv => cases hv
  | 14, hv => cases hv
  | 15, hv => cases hv
  | 16, hv => cases hv
  | 17, hv => cases hv
  | i + 18, hv => simp at hv
/- and x -/
set_option maxHeartbeats 4000000 in
set_option maxRecDepth 100000 in
theorem LW_f5 {pc : Nat} {x : Int} {y3 y5 y6 y7 y8 y9 ya yb yc yd ye yf yg yh : Option MV} {kk' : Nat} (hk : kk ≤ kk') (h : LW P kk 0 pc [some (.inr (0, 40)), some (.inr (0, 23)), some (.inl e), none, some (.inl x), none, none, none, none, none, none, none, none, none, none, none, none, none] [] S) : LW P kk' al pc [some (.inr (0, 40)), some (.inr (0, 23)), some (.inl e), y3, some (.inl x), y5, y6, y7, y8, y9, ya, yb, yc, yd, ye, yf, yg, yh] [] S := by
  refine LW_weak (L' := [some (.inr (0, 40)), some (.inr (0, 23)), some (.inl e), none, some (.inl x), none, none, none, none, none, none, none, none, none, none, none, none, none]) hk (Nat.zero_le _) rfl (fun i v hv => ?_) (fun v hv => by cases hv) h
  match i, hv with
  | 0, hv => cases hv; exact ⟨rfl, vM_s0 0⟩
  | 1, hv => cases hv; exact ⟨rfl, vM_o 0⟩
  | 2, hv => cases hv; exact ⟨rfl, trivial⟩
  | 3, hv => cases hv
  | 4, hv => cases hv; exact ⟨rfl, trivial⟩
  | 5, hv => cases hv
  | 6, hv => cases hv
  | 7, hv => cases hv
  | 8, hv => cases hv
  | 9, hv => cases hv
  | 10, hv => cases hv
  | 11, hv => cases hv
  | 12, hv => cases hv
  | 13, hv => cases hv
  | 14, hv => cases hv
  | 15, hv => cases hv
  | 16, hv => cases hv
  | 17, hv => cases hv
  | i + 18, hv => simp at hv
/- 428: the next round -/
set_option maxHeartbeats 4000000 in
set_option maxRecDepth 100000 in
theorem at_428 {kk' : Nat} (hk : kk ≤ kk') {y3 y4 y5 y6 y7 y8 y9 ya yb yc yd ye yf yg yh : Option MV} (h : LHd P kk (e + 1) S) : LW P kk' al 428 [some (.inr (0, 40)), some (.inr (0, 23)), some (.inl e), y3, y4, y5, y6, y7, y8, y9, ya, yb, yc, yd, ye, yf, yg, yh] [] S := by
  refine LW_f3 hk ?_
  refine lg_sound (fun pc => pc == 48) 10 _ _ _ _ ?_
  repeat' first | (with_reducible refine lT ?_ ?_; · omega) | (with_reducible refine lF ?_ ?_; · omega) | (with_reducible refine lI (fun _ => ?_) (fun _ => ?_)) | (simp (config := {maxSteps := 1000000}) (disch := (first | assumption | omega | (rw [hr_at]; assumption) | (rw [hr_at]; omega))) only [f_L_law, lg_0, lg_s, lK_none, lK_N, lK_C, lK_R, lQ_some, lQ_none, stR, mZ, mC, stI, ini, mL, gI, gA, sI, sA, bi, gF, pF, kF, kT, kL, c2, mT, mR, f4, tsw, lsw, tgt, inR, Nat.reduceLT, Nat.reduceLeDiff, Nat.reduceEqDiff, Nat.reduceAdd, Nat.reduceSub, ↓reduceIte, Bool.false_eq_true, List.map_cons, List.map_nil, List.length_cons, List.length_nil, List.replicate, List.cons_append, List.nil_append, List.getElem?_cons_zero, List.getElem?_cons_succ, List.set, List.take_succ_cons, List.take_zero, List.drop_succ_cons, List.drop_zero, List.reverse_cons, List.reverse_nil, Int.reduceLE, Int.reduceLT, Int.reduceNeg, Int.reduceToNat, true_and, and_true, and_self, beq_iff_eq, Bool.and_eq_true, Bool.or_eq_true, or_false, false_or, or_true, true_or, and_false, false_and, hu_hr, hr_hr, hr_at, hr_nc, not_false_eq_true, Int.reduceEq, Int.pow_zero, Int.reducePow, Int.reduceMul, Int.reduceAdd, Int.reduceDiv, Int.reduceMod, Int.zero_add, Int.add_zero, Int.mul_one, Int.cast_ofNat_Int])
  exact h
/- 315 on: the office nine ticks on is what the rule told -/
set_option maxHeartbeats 4000000 in
set_option maxRecDepth 100000 in
theorem at_328 {T : Hp} {M9 : Int → Int} {O O9 : Of} {b : Int} {y3 y4 y5 y6 y7 y8 : Option MV} (h1 : T1 O M) (h2 : T1 O9 M9) (hM9 : M9 = pvM M 9) (e1 : ∀ k : Int, 0 ≤ k → k < 59 → T 0 30 k = TLO O k) (e2 : ∀ k : Int, 0 ≤ k → k < 59 → T 1 30 k = TLO O9 k) (hb : -5 ≤ b ∧ b ≤ 2) (h : LHd P kk (e + 1) T) : LW P kk 2 328 [some (.inr (0, 40)), some (.inr (0, 23)), some (.inl e), y3, y4, y5, y6, y7, y8, some (.inl (M 5)), some (.inl (irM M 0)), some (.inl (irM M 2)), some (.inl (irM M 3 - 100000)), some (.inl (irM M 1)), some (.inl b), some (.inr (0, 30)), some (.inr (1, 30)), none] [] T := by
  have v : ∀ (X : Of) (N : Int → Int), T1 X N → TLO X 2 = coS N ∧ TLO X 3 = N 3 ∧ TLO X 5 = pyS N ∧ TLO X 9 = ptC N ∧ TLO X 23 + TLO X 33 + TLO X 43 = awS N := fun X N hX => by
    have p1 := s3_coS hX.1.2.2.2.1
    have p2 := s3_py hX.1.2.2.2.1
    have p3 := s3_aw hX.1.2.2.2.1
    have p4 := hX.1.2.2.2.2.2.2.1.2.2.1
    refine ⟨p1, p4.2.2, p2, p4.1, ?_⟩
    rw [← p3]
    rfl
  obtain ⟨a2, a3, a5, a9, as⟩ := v O M h1
  obtain ⟨b2, b3, b5, b9, bs⟩ := v O9 M9 h2
  have i0 : irM M 0 = pyS M9 - pyS M := by rw [hM9]; rfl
  have i1 : irM M 1 = ptC M9 := by rw [hM9]; rfl
  have i2 : irM M 2 = awS M9 - awS M := by rw [hM9]; rfl
  have i3 : irM M 3 = coS M9 - M9 3 - (coS M - M 3) + 100000 := by rw [hM9]; rfl
  have t02 := e1 2 (by omega) (by omega)
  have t03 := e1 3 (by omega) (by omega)
  have t05 := e1 5 (by omega) (by omega)
  have t023 := e1 23 (by omega) (by omega)
  have t033 := e1 33 (by omega) (by omega)
  have t043 := e1 43 (by omega) (by omega)
  have t12 := e2 2 (by omega) (by omega)
  have t13 := e2 3 (by omega) (by omega)
  have t15 := e2 5 (by omega) (by omega)
  have t19 := e2 9 (by omega) (by omega)
  have t123 := e2 23 (by omega) (by omega)
  have t133 := e2 33 (by omega) (by omega)
  have t143 := e2 43 (by omega) (by omega)
  generalize irM M 0 = j0 at *
  generalize irM M 1 = j1 at *
  generalize irM M 2 = j2 at *
  generalize irM M 3 = j3 at *
  refine lg_sound (fun pc => pc == 428) 200 _ _ _ _ ?_
  repeat' first | (with_reducible refine lT ?_ ?_; · omega) | (with_reducible refine lF ?_ ?_; · omega) | (with_reducible refine lI (fun _ => ?_) (fun _ => ?_)) | (simp (config := {maxSteps := 1000000}) (disch := (first | assumption | omega | (rw [hr_at]; assumption) | (rw [hr_at]; omega))) only [f_L_law, lg_0, lg_s, lK_none, lK_N, lK_C, lK_R, lQ_some, lQ_none, stR, mZ, mC, stI, ini, mL, gI, gA, sI, sA, bi, gF, pF, kF, kT, kL, c2, mT, mR, f4, tsw, lsw, tgt, inR, Nat.reduceLT, Nat.reduceLeDiff, Nat.reduceEqDiff, Nat.reduceAdd, Nat.reduceSub, ↓reduceIte, Bool.false_eq_true, List.map_cons, List.map_nil, List.length_cons, List.length_nil, List.replicate, List.cons_append, List.nil_append, List.getElem?_cons_zero, List.getElem?_cons_succ, List.set, List.take_succ_cons, List.take_zero, List.drop_succ_cons, List.drop_zero, List.reverse_cons, List.reverse_nil, Int.reduceLE, Int.reduceLT, Int.reduceNeg, Int.reduceToNat, true_and, and_true, and_self, beq_iff_eq, Bool.and_eq_true, Bool.or_eq_true, or_false, false_or, or_true, true_or, and_false, false_and, hu_hr, hr_hr, hr_at, hr_nc, not_false_eq_true, Int.reduceEq, Int.pow_zero, Int.reducePow, Int.reduceMul, Int.reduceAdd, Int.reduceDiv, Int.reduceMod, Int.zero_add, Int.add_zero, Int.mul_one, Int.cast_ofNat_Int])
  all_goals exact at_428 (Nat.le_refl _) h
end BODY
