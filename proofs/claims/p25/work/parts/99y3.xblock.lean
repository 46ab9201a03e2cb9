/-! THE LAW'S BODY: rules tried, accounts, tickets -/
section BODY
variable {P : PT} {kk al Ln : Nat} {xs : Nat → Int32} {S : Hp} {M : Int → Int} {e : Int}
set_option maxHeartbeats 4000000 in
set_option maxRecDepth 100000 in
theorem r_pass9 (hL : LQ S) (hG : GM (S (nw S)) M) (h9 : M 0 + 9 ≤ 9999) : ∃ (T : Hp) (v : Int), (∀ Q : Option MV → Hp → Prop, Wc 74 [.inr (0, 23), .inl 9] S Q = Q (some (.inl v)) T) ∧ LQ T ∧ GM (T (nw T)) (pvM M 9) ∧ pvM M 9 0 ≤ M 0 + 9 ∧ ∀ k c : Nat, 24 < c → T k c = S k c := by
  have b := PASS2 (t := 9) hG (by omega)
  have hP := LQ_P hL
  have h7 := hG.1.1.1.2.2.2.2.2.2.1.1
  have r := fun Q => c_pass (S := S) (t := 9) hP.1 hP.2 (by omega) (by unfold tdR; omega) (fun _ _ => TcP_of hG.1.1 hG.1.2.2 (by omega)) (by rw [b.1]; exact b.2.2.2.1) Q
  obtain ⟨T, hT⟩ : ∃ T, T = edS (acS S (paO (S (nw S)) 9)) (paW (S (nw S)) 9) := ⟨_, rfl⟩
  obtain ⟨q1, q2, q3, q4, q5, -, -⟩ := ed_heap hL hT
  rw [← hT] at r
  have eM : paM M 9 = pvM M 9 := by
    unfold paM
    rw [if_pos (by omega), if_neg (by omega)]
    rfl
  have b2 := b.2.1
  have b3 := b.2.2.1
  rw [eM] at b2 b3
  exact ⟨T, _, r, q1, by rw [q2]; exact GM_sc q3 b2, b3, q5⟩
set_option maxHeartbeats 4000000 in
set_option maxRecDepth 100000 in
theorem at_240 {kk' : Nat} (hk : kk + 2 ≤ kk') (he : 0 ≤ e ∧ e < 24) (hL : LQ S) (hG : GM (S (nw S)) M) (hM : M 0 ≤ 100 * e + 30) (hl : S 0 41 0 = Ln ∧ ∀ j, S 0 40 j = xI xs j) (hnext : ∀ T : Hp, Inv Ln xs (e + 1) T → LHd P kk (e + 1) T) {y3 y4 y5 y6 y7 y8 y9 ya yb yc yd ye yf yg yh : Option MV} : LW P kk' al 240 [some (.inr (0, 40)), some (.inr (0, 23)), some (.inl e), y3, y4, y5, y6, y7, y8, y9, ya, yb, yc, yd, ye, yf, yg, yh] [] S := by
  refine LW_f3 hk ?_
  by_cases h6 : e % 6 = 5
  · have rc : ∀ Q : Option MV → Hp → Prop, Wc 80 [.inr (0, 23), .inl 14] S Q = Q (some (.inl (M 5))) S := fun Q => by
      rw [c_count (by unfold tdR; omega) Q]
      have q := RR_set3 hG.1.1.1 0 (by omega) (by omega)
      have e5 : ccV S 14 = M 5 := q.1
      rw [e5]
    obtain ⟨T0, s0, r0⟩ := r_if (a := 0) hL hG (by omega)
    obtain ⟨T1', s1, r1⟩ := r_if (a := 2) s0.1 (Sam_GM s0 hG) (by omega)
    have s01 := Sam_tr s0 s1
    obtain ⟨T2, s2, r2⟩ := r_if (a := 3) s01.1 (Sam_GM s01 hG) (by omega)
    have s02 := Sam_tr s01 s2
    obtain ⟨T3, s3', r3⟩ := r_if (a := 1) s02.1 (Sam_GM s02 hG) (by omega)
    have s03 := Sam_tr s02 s3'
    obtain ⟨T4, b, s4, hb, r4⟩ := r_best s03.1 (Sam_GM s03 hG)
    have s04 := Sam_tr s03 s4
    have g4 := Sam_GM s04 hG
    refine lg_sound (fun pc => pc == 310) 100 _ _ _ _ ?_
    repeat' first | (with_reducible refine lT ?_ ?_; · omega) | (with_reducible refine lF ?_ ?_; · omega) | (with_reducible refine lI (fun _ => ?_) (fun _ => ?_)) | (simp (config := {maxSteps := 1000000}) (disch := (first | assumption | omega | (rw [hr_at]; assumption) | (rw [hr_at]; omega))) only [f_L_law, lg_0, lg_s, lK_none, lK_N, lK_C, lK_R, lQ_some, lQ_none, stR, mZ, mC, stI, ini, mL, gI, gA, sI, sA, bi, gF, pF, kF, kT, kL, c2, mT, mR, f4, tsw, lsw, tgt, inR, Nat.reduceLT, Nat.reduceLeDiff, Nat.reduceEqDiff, Nat.reduceAdd, Nat.reduceSub, ↓reduceIte, Bool.false_eq_true, List.map_cons, List.map_nil, List.length_cons, List.length_nil, List.replicate, List.cons_append, List.nil_append, List.getElem?_cons_zero, List.getElem?_cons_succ, List.set, List.take_succ_cons, List.take_zero, List.drop_succ_cons, List.drop_zero, List.reverse_cons, List.reverse_nil, Int.reduceLE, Int.reduceLT, Int.reduceNeg, Int.reduceToNat, true_and, and_true, and_self, beq_iff_eq, Bool.and_eq_true, Bool.or_eq_true, or_false, false_or, or_true, true_or, and_false, false_and, hu_hr, hr_hr, hr_at, hr_nc, not_false_eq_true, Int.reduceEq, Int.pow_zero, Int.reducePow, Int.reduceMul, Int.reduceAdd, Int.reduceDiv, Int.reduceMod, Int.zero_add, Int.add_zero, Int.mul_one, Int.cast_ofNat_Int, rc, r0, r1, r2, r3, r4])
    refine LTELL (i := 64) (r3 := 545) rfl (by decide) (by decide) g4 (fun row1 hr1 => ?_)
    obtain ⟨T5, hT5⟩ : ∃ T5, T5 = hr T4 0 30 row1 := ⟨_, rfl⟩
    have L5 : LQ T5 := by rw [hT5]; exact al_LQ s04.1
    have g5 : GM (T5 (nw T5)) M := by rw [hT5]; exact al_GM g4
    obtain ⟨T6, v, r6, L6, g6, m6, c6⟩ := r_pass9 L5 g5 (by omega)
    rw [← hT5]
    refine lg_sound (fun pc => pc == 323) 20 _ _ _ _ ?_
    repeat' first | (with_reducible refine lT ?_ ?_; · omega) | (with_reducible refine lF ?_ ?_; · omega) | (with_reducible refine lI (fun _ => ?_) (fun _ => ?_)) | (simp (config := {maxSteps := 1000000}) (disch := (first | assumption | omega | (rw [hr_at]; assumption) | (rw [hr_at]; omega))) only [f_L_law, lg_0, lg_s, lK_none, lK_N, lK_C, lK_R, lQ_some, lQ_none, stR, mZ, mC, stI, ini, mL, gI, gA, sI, sA, bi, gF, pF, kF, kT, kL, c2, mT, mR, f4, tsw, lsw, tgt, inR, Nat.reduceLT, Nat.reduceLeDiff, Nat.reduceEqDiff, Nat.reduceAdd, Nat.reduceSub, ↓reduceIte, Bool.false_eq_true, List.map_cons, List.map_nil, List.length_cons, List.length_nil, List.replicate, List.cons_append, List.nil_append, List.getElem?_cons_zero, List.getElem?_cons_succ, List.set, List.take_succ_cons, List.take_zero, List.drop_succ_cons, List.drop_zero, List.reverse_cons, List.reverse_nil, Int.reduceLE, Int.reduceLT, Int.reduceNeg, Int.reduceToNat, true_and, and_true, and_self, beq_iff_eq, Bool.and_eq_true, Bool.or_eq_true, or_false, false_or, or_true, true_or, and_false, false_and, hu_hr, hr_hr, hr_at, hr_nc, not_false_eq_true, Int.reduceEq, Int.pow_zero, Int.reducePow, Int.reduceMul, Int.reduceAdd, Int.reduceDiv, Int.reduceMod, Int.zero_add, Int.add_zero, Int.mul_one, Int.cast_ofNat_Int, r6])
    refine LTELL (i := 64) (r3 := 545) rfl (by decide) (by decide) g6 (fun row2 hr2 => ?_)
    obtain ⟨T7, hT7⟩ : ∃ T7, T7 = hr T6 1 30 row2 := ⟨_, rfl⟩
    have L7 : LQ T7 := by rw [hT7]; exact al_LQ L6
    have g7 : GM (T7 (nw T7)) (pvM M 9) := by rw [hT7]; exact al_GM g6
    have c7 : ∀ k c : Nat, 22 < c → ¬ c = 23 → ¬ c = 24 → ¬ c = 30 → T7 k c = S k c := fun k c h1 h2 h3 h4 => by
      rw [hT7, hr_nc h4, c6 k c (by omega), hT5, hr_nc h4, s04.2.2.2.2 k c h1]
    have e70 : T7 0 30 = row1 := by rw [hT7, hr_nk (by decide), c6 0 30 (by decide), hT5, hr_at]
    have e71 : T7 1 30 = row2 := by rw [hT7, hr_at]
    rw [← hT7]
    refine lg_sound (fun pc => pc == 328) 10 _ _ _ _ ?_
    repeat' first | (with_reducible refine lT ?_ ?_; · omega) | (with_reducible refine lF ?_ ?_; · omega) | (with_reducible refine lI (fun _ => ?_) (fun _ => ?_)) | (simp (config := {maxSteps := 1000000}) (disch := (first | assumption | omega | (rw [hr_at]; assumption) | (rw [hr_at]; omega))) only [f_L_law, lg_0, lg_s, lK_none, lK_N, lK_C, lK_R, lQ_some, lQ_none, stR, mZ, mC, stI, ini, mL, gI, gA, sI, sA, bi, gF, pF, kF, kT, kL, c2, mT, mR, f4, tsw, lsw, tgt, inR, Nat.reduceLT, Nat.reduceLeDiff, Nat.reduceEqDiff, Nat.reduceAdd, Nat.reduceSub, ↓reduceIte, Bool.false_eq_true, List.map_cons, List.map_nil, List.length_cons, List.length_nil, List.replicate, List.cons_append, List.nil_append, List.getElem?_cons_zero, List.getElem?_cons_succ, List.set, List.take_succ_cons, List.take_zero, List.drop_succ_cons, List.drop_zero, List.reverse_cons, List.reverse_nil, Int.reduceLE, Int.reduceLT, Int.reduceNeg, Int.reduceToNat, true_and, and_true, and_self, beq_iff_eq, Bool.and_eq_true, Bool.or_eq_true, or_false, false_or, or_true, true_or, and_false, false_and, hu_hr, hr_hr, hr_at, hr_nc, not_false_eq_true, Int.reduceEq, Int.pow_zero, Int.reducePow, Int.reduceMul, Int.reduceAdd, Int.reduceDiv, Int.reduceMod, Int.zero_add, Int.add_zero, Int.mul_one, Int.cast_ofNat_Int])
    refine at_328 (M9 := pvM M 9) (O := T4 (nw T4)) (O9 := T6 (nw T6)) g4.1.1 g6.1.1 rfl (fun k k1 k2 => by rw [e70]; exact hr1 k k1 k2) (fun k k1 k2 => by rw [e71]; exact hr2 k k1 k2) hb ?_
    refine hnext T7 ⟨L7, ⟨pvM M 9, g7, by unfold IvM; omega⟩, ?_, fun j => ?_⟩
    · rw [c7 0 41 (by decide) (by decide) (by decide) (by decide)]; exact hl.1
    · rw [c7 0 40 (by decide) (by decide) (by decide) (by decide)]; exact hl.2 j
  · refine lg_sound (fun pc => pc == 428) 20 _ _ _ _ ?_
    repeat' first | (with_reducible refine lT ?_ ?_; · omega) | (with_reducible refine lF ?_ ?_; · omega) | (with_reducible refine lI (fun _ => ?_) (fun _ => ?_)) | (simp (config := {maxSteps := 1000000}) (disch := (first | assumption | omega | (rw [hr_at]; assumption) | (rw [hr_at]; omega))) only [f_L_law, lg_0, lg_s, lK_none, lK_N, lK_C, lK_R, lQ_some, lQ_none, stR, mZ, mC, stI, ini, mL, gI, gA, sI, sA, bi, gF, pF, kF, kT, kL, c2, mT, mR, f4, tsw, lsw, tgt, inR, Nat.reduceLT, Nat.reduceLeDiff, Nat.reduceEqDiff, Nat.reduceAdd, Nat.reduceSub, ↓reduceIte, Bool.false_eq_true, List.map_cons, List.map_nil, List.length_cons, List.length_nil, List.replicate, List.cons_append, List.nil_append, List.getElem?_cons_zero, List.getElem?_cons_succ, List.set, List.take_succ_cons, List.take_zero, List.drop_succ_cons, List.drop_zero, List.reverse_cons, List.reverse_nil, Int.reduceLE, Int.reduceLT, Int.reduceNeg, Int.reduceToNat, true_and, and_true, and_self, beq_iff_eq, Bool.and_eq_true, Bool.or_eq_true, or_false, false_or, or_true, true_or, and_false, false_and, hu_hr, hr_hr, hr_at, hr_nc, not_false_eq_true, Int.reduceEq, Int.pow_zero, Int.reducePow, Int.reduceMul, Int.reduceAdd, Int.reduceDiv, Int.reduceMod, Int.zero_add, Int.add_zero, Int.mul_one, Int.cast_ofNat_Int])
    exact at_428 (by omega) (hnext S ⟨hL, ⟨M, hG, by unfold IvM; omega⟩, hl⟩)
set_option maxHeartbeats 4000000 in
set_option maxRecDepth 100000 in
theorem at_208 {kk' : Nat} (hk : kk + 2 ≤ kk') (he : 0 ≤ e ∧ e < 24) (hL : LQ S) (hG : GM (S (nw S)) M) (hM : M 0 ≤ 100 * e + 30) (hl : S 0 41 0 = Ln ∧ ∀ j, S 0 40 j = xI xs j) (hnext : ∀ T : Hp, Inv Ln xs (e + 1) T → LHd P kk (e + 1) T) {x : Int} {y3 y5 y6 y7 y8 y9 ya yb yc yd ye yf yg yh : Option MV} : LW P kk' al 208 [some (.inr (0, 40)), some (.inr (0, 23)), some (.inl e), y3, some (.inl x), y5, y6, y7, y8, y9, ya, yb, yc, yd, ye, yf, yg, yh] [] S := by
  refine LW_f5 hk ?_
  have ra := fun Q => c_accounts hG Q
  have hf : 100 * lwV x 2 = 0 ∨ 100 * lwV x 2 = 100 := by
    have := lwV_b x (n := 2) (by decide)
    omega
  have rt := fun Q => c_tickets hG hf Q
  by_cases h2 : e % 2 = 1
  · refine lg_sound (fun pc => pc == 240) 40 _ _ _ _ ?_
    repeat' first | (with_reducible refine lT ?_ ?_; · omega) | (with_reducible refine lF ?_ ?_; · omega) | (with_reducible refine lI (fun _ => ?_) (fun _ => ?_)) | (simp (config := {maxSteps := 1000000}) (disch := (first | assumption | omega | (rw [hr_at]; assumption) | (rw [hr_at]; omega))) only [f_L_law, lg_0, lg_s, lK_none, lK_N, lK_C, lK_R, lQ_some, lQ_none, stR, mZ, mC, stI, ini, mL, gI, gA, sI, sA, bi, gF, pF, kF, kT, kL, c2, mT, mR, f4, tsw, lsw, tgt, inR, Nat.reduceLT, Nat.reduceLeDiff, Nat.reduceEqDiff, Nat.reduceAdd, Nat.reduceSub, ↓reduceIte, Bool.false_eq_true, List.map_cons, List.map_nil, List.length_cons, List.length_nil, List.replicate, List.cons_append, List.nil_append, List.getElem?_cons_zero, List.getElem?_cons_succ, List.set, List.take_succ_cons, List.take_zero, List.drop_succ_cons, List.drop_zero, List.reverse_cons, List.reverse_nil, Int.reduceLE, Int.reduceLT, Int.reduceNeg, Int.reduceToNat, true_and, and_true, and_self, beq_iff_eq, Bool.and_eq_true, Bool.or_eq_true, or_false, false_or, or_true, true_or, and_false, false_and, hu_hr, hr_hr, hr_at, hr_nc, not_false_eq_true, Int.reduceEq, Int.pow_zero, Int.reducePow, Int.reduceMul, Int.reduceAdd, Int.reduceDiv, Int.reduceMod, Int.zero_add, Int.add_zero, Int.mul_one, Int.cast_ofNat_Int, ra, rt, c_low])
    exact at_240 (by omega) he hL hG hM hl hnext
  · refine lg_sound (fun pc => pc == 240) 40 _ _ _ _ ?_
    repeat' first | (with_reducible refine lT ?_ ?_; · omega) | (with_reducible refine lF ?_ ?_; · omega) | (with_reducible refine lI (fun _ => ?_) (fun _ => ?_)) | (simp (config := {maxSteps := 1000000}) (disch := (first | assumption | omega | (rw [hr_at]; assumption) | (rw [hr_at]; omega))) only [f_L_law, lg_0, lg_s, lK_none, lK_N, lK_C, lK_R, lQ_some, lQ_none, stR, mZ, mC, stI, ini, mL, gI, gA, sI, sA, bi, gF, pF, kF, kT, kL, c2, mT, mR, f4, tsw, lsw, tgt, inR, Nat.reduceLT, Nat.reduceLeDiff, Nat.reduceEqDiff, Nat.reduceAdd, Nat.reduceSub, ↓reduceIte, Bool.false_eq_true, List.map_cons, List.map_nil, List.length_cons, List.length_nil, List.replicate, List.cons_append, List.nil_append, List.getElem?_cons_zero, List.getElem?_cons_succ, List.set, List.take_succ_cons, List.take_zero, List.drop_succ_cons, List.drop_zero, List.reverse_cons, List.reverse_nil, Int.reduceLE, Int.reduceLT, Int.reduceNeg, Int.reduceToNat, true_and, and_true, and_self, beq_iff_eq, Bool.and_eq_true, Bool.or_eq_true, or_false, false_or, or_true, true_or, and_false, false_and, hu_hr, hr_hr, hr_at, hr_nc, not_false_eq_true, Int.reduceEq, Int.pow_zero, Int.reducePow, Int.reduceMul, Int.reduceAdd, Int.reduceDiv, Int.reduceMod, Int.zero_add, Int.add_zero, Int.mul_one, Int.cast_ofNat_Int])
    exact at_240 (by omega) he hL hG hM hl hnext
end BODY
