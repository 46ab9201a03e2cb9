/-! THE LAW'S BODY: one round -/
set_option maxHeartbeats 4000000 in
set_option maxRecDepth 100000 in
theorem un_heap2 {S T U : Hp} (h : LQ S) (g23 : T 0 23 = rcC (S 0 23) (S 0 24)) (g24 : T 0 24 = rcA (S 0 23) (S 0 24)) (hU : U = unS T) : unV T = (if S 0 23 3 = 4 then 3 else S 0 23 3) ∧ LQ U ∧ nw U = sp S ∧ ∀ k c : Nat, ¬ c = 23 → ¬ c = 24 → U k c = T k c := by
  have hs := h.1
  have hD := DsC_rc h.1 h.2
  have e3 : rcC (S 0 23) (S 0 24) 3 = if S 0 23 3 < 4 then S 0 23 3 + 1 else S 0 23 3 := by
    unfold rcC
    split
    · rw [up_ne (by decide), up_eq rfl]
    · rw [up_ne (by decide)]
  have t3 : T 0 23 3 = if S 0 23 3 < 4 then S 0 23 3 + 1 else S 0 23 3 := by rw [g23, e3]
  have nz : ¬ T 0 23 3 = 0 := by rw [t3]; split <;> omega
  obtain ⟨p, hp⟩ : ∃ p, p = T 0 23 3 - 1 := ⟨_, rfl⟩
  have ep : p = if S 0 23 3 = 4 then 3 else S 0 23 3 := by
    rw [hp, t3]
    by_cases c : S 0 23 3 = 4
    · rw [if_pos c, if_neg (by omega)]; omega
    · rw [if_neg c, if_pos (by omega)]; omega
  have hpb : 0 ≤ p ∧ p < 4 := by rw [ep]; split <;> omega
  have eA : T 0 24 p = S 0 23 1 := by
    rw [g24]
    unfold rcA
    by_cases c : S 0 23 3 < 4
    · rw [if_pos c, ep, if_neg (by omega), up_eq rfl]
    · rw [if_neg c, ep, if_pos (by omega), up_eq rfl]
  unfold unS at hU
  rw [if_neg nz, ← hp] at hU
  have u23 : U 0 23 = up (up (T 0 23) 3 p) 0 (T 0 24 p) := by rw [hU, hr_at]
  have u24 : U 0 24 = up (T 0 24) p (T 0 23 0) := by rw [hU, hr_nc (by decide), hr_at]
  have uc : ∀ k c : Nat, ¬ c = 23 → ¬ c = 24 → U k c = T k c := fun k c c1 c2 => by rw [hU, hr_nc c1, hr_nc c2, hr_nc c1]
  have eV : unV T = p := by unfold unV; rw [if_neg nz]; exact hp.symm
  have hDT : DsC (T 0 23) (T 0 24) := by rw [g23, g24]; exact hD
  refine ⟨by rw [eV, ep], ⟨?_, by rw [u23, u24]; exact DsC_un hpb hDT⟩, ?_, uc⟩
  · rw [u23, up_ne (by decide), up_eq rfl]; omega
  · unfold nw sp
    rw [u23, up_eq rfl, eA]
section BODY
variable {P : PT} {kk Ln : Nat} {xs : Nat → Int32} {e : Int}
set_option maxHeartbeats 4000000 in
set_option maxRecDepth 100000 in
theorem clV_in {S : Hp} {k : Int} (hl : S 0 41 0 = Ln ∧ ∀ j, S 0 40 j = xI xs j) (hk : 0 ≤ k ∧ k < 600) : inR (clV S k) := by
  unfold clV
  split
  · rw [hl.2]
    unfold xI
    have h1 := Int32.le_toInt (xs k.toNat)
    have h2 := Int32.toInt_lt (xs k.toNat)
    constructor <;> omega
  · constructor <;> omega
set_option maxHeartbeats 4000000 in
set_option maxRecDepth 100000 in
theorem rd_round {S : Hp} (he : 0 ≤ e ∧ e < 24) (hLn : Ln ≤ 260) (hI : Inv Ln xs e S) (hnext : ∀ T : Hp, Inv Ln xs (e + 1) T → LHd P kk (e + 1) T) : LHd P (kk + 6) e S := by
  obtain ⟨hL, ⟨M, hG, hM⟩, hl⟩ := hI
  unfold IvM at hM
  have hl0 : 0 ≤ S 0 41 0 ∧ S 0 41 0 ≤ 260 := by rw [hl.1]; omega
  have hg := clV_in (k := 7 + 2 * e) hl (by omega)
  have hx := clV_in (k := 8 + 2 * e) hl (by omega)
  have rcg := fun Q => c_cell (S := S) (k := 7 + 2 * e) hl0 (by omega) Q
  have rcx := fun Q => c_cell (S := S) (k := 8 + 2 * e) hl0 (by omega) Q
  generalize clV S (7 + 2 * e) = g at *
  generalize clV S (8 + 2 * e) = x at *
  obtain ⟨v, M', hv, hM', hAc⟩ := AC hG hg hx
  unfold tdR at hv
  refine lg_sound (fun pc => pc == 78) 60 _ _ _ _ ?_
  repeat' first | (with_reducible refine lT ?_ ?_; · omega) | (with_reducible refine lF ?_ ?_; · omega) | (with_reducible refine lI (fun _ => ?_) (fun _ => ?_)) | (simp (config := {maxSteps := 1000000}) (disch := (first | assumption | omega | (rw [hr_at]; assumption) | (rw [hr_at]; omega))) only [f_L_law, lg_0, lg_s, lK_none, lK_N, lK_C, lK_R, lQ_some, lQ_none, stR, mZ, mC, stI, ini, mL, gI, gA, sI, sA, bi, gF, pF, kF, kT, kL, c2, mT, mR, f4, tsw, lsw, tgt, inR, Nat.reduceLT, Nat.reduceLeDiff, Nat.reduceEqDiff, Nat.reduceAdd, Nat.reduceSub, ↓reduceIte, Bool.false_eq_true, List.map_cons, List.map_nil, List.length_cons, List.length_nil, List.replicate, List.cons_append, List.nil_append, List.getElem?_cons_zero, List.getElem?_cons_succ, List.set, List.take_succ_cons, List.take_zero, List.drop_succ_cons, List.drop_zero, List.reverse_cons, List.reverse_nil, Int.reduceLE, Int.reduceLT, Int.reduceNeg, Int.reduceToNat, true_and, and_true, and_self, beq_iff_eq, Bool.and_eq_true, Bool.or_eq_true, or_false, false_or, or_true, true_or, and_false, false_and, hu_hr, hr_hr, hr_at, hr_nc, not_false_eq_true, Int.reduceEq, Int.pow_zero, Int.reducePow, Int.reduceMul, Int.reduceAdd, Int.reduceDiv, Int.reduceMod, Int.zero_add, Int.add_zero, Int.mul_one, Int.cast_ofNat_Int, rcg, rcx])
  refine LTELL (kk := kk + 5) (i := 64) (r3 := 545) rfl (by decide) (by decide) hG (fun row0 hr0 => ?_)
  -- told before the act
  obtain ⟨S1, hS1⟩ : ∃ S1, S1 = hr S 0 30 row0 := ⟨_, rfl⟩
  have L1 : LQ S1 := by rw [hS1]; exact al_LQ hL
  have g1 : GM (S1 (nw S1)) M := by rw [hS1]; exact al_GM hG
  have c1' : ∀ k c : Nat, ¬ c = 30 → S1 k c = S k c := fun k c h => by rw [hS1, hr_nc h]
  have e10 : S1 0 30 = row0 := by rw [hS1, hr_at]
  rw [← hS1]
  obtain ⟨O1, rA, gO1, hneg⟩ := hAc S1 L1 g1
  have k12 : ∀ X : Hp, ∀ Q : Option MV → Hp → Prop, Wc 80 [.inr (0, 23), .inl 12] X Q = Q (some (.inl (X 0 23 3))) X := fun X Q => by
    rw [c_count (by unfold tdR; omega) Q]
    rfl
  obtain ⟨T, hT⟩ : ∃ T, T = edS (acS S1 O1) v := ⟨_, rfl⟩
  rw [← hT] at rA
  obtain ⟨q1, q2, q3, q4, q5, q6, q7⟩ := ed_heap L1 hT
  have gT : GM (T (nw T)) M' := by rw [q2]; exact GM_sc q3 gO1
  have k1 := k12 S1
  refine lg_sound (fun pc => pc == 101) 60 _ _ _ _ ?_
  repeat' first | (with_reducible refine lT ?_ ?_; · omega) | (with_reducible refine lF ?_ ?_; · omega) | (with_reducible refine lI (fun _ => ?_) (fun _ => ?_)) | (simp (config := {maxSteps := 1000000}) (disch := (first | assumption | omega | (rw [hr_at]; assumption) | (rw [hr_at]; omega))) only [f_L_law, lg_0, lg_s, lK_none, lK_N, lK_C, lK_R, lQ_some, lQ_none, stR, mZ, mC, stI, ini, mL, gI, gA, sI, sA, bi, gF, pF, kF, kT, kL, c2, mT, mR, f4, tsw, lsw, tgt, inR, Nat.reduceLT, Nat.reduceLeDiff, Nat.reduceEqDiff, Nat.reduceAdd, Nat.reduceSub, ↓reduceIte, Bool.false_eq_true, List.map_cons, List.map_nil, List.length_cons, List.length_nil, List.replicate, List.cons_append, List.nil_append, List.getElem?_cons_zero, List.getElem?_cons_succ, List.set, List.take_succ_cons, List.take_zero, List.drop_succ_cons, List.drop_zero, List.reverse_cons, List.reverse_nil, Int.reduceLE, Int.reduceLT, Int.reduceNeg, Int.reduceToNat, true_and, and_true, and_self, beq_iff_eq, Bool.and_eq_true, Bool.or_eq_true, or_false, false_or, or_true, true_or, and_false, false_and, hu_hr, hr_hr, hr_at, hr_nc, not_false_eq_true, Int.reduceEq, Int.pow_zero, Int.reducePow, Int.reduceMul, Int.reduceAdd, Int.reduceDiv, Int.reduceMod, Int.zero_add, Int.add_zero, Int.mul_one, Int.cast_ofNat_Int, k1, rA])
  refine LTELL (kk := kk + 4) (i := 64) (r3 := 545) rfl (by decide) (by decide) gT (fun row1 hr1 => ?_)
  -- told behind it
  obtain ⟨S2, hS2⟩ : ∃ S2, S2 = hr T 1 30 row1 := ⟨_, rfl⟩
  have L2 : LQ S2 := by rw [hS2]; exact al_LQ q1
  have g2 : GM (S2 (nw S2)) M' := by rw [hS2]; exact al_GM gT
  have c2' : ∀ k c : Nat, ¬ c = 30 → S2 k c = T k c := fun k c h => by rw [hS2, hr_nc h]
  have e20 : S2 0 30 = row0 := by rw [hS2, hr_nk (by decide), q5 0 30 (by decide), e10]
  have e21 : S2 1 30 = row1 := by rw [hS2, hr_at]
  have l2 : S2 0 41 0 = Ln ∧ ∀ j, S2 0 40 j = xI xs j := ⟨by rw [c2' 0 41 (by decide), q5 0 41 (by decide), c1' 0 41 (by decide)]; exact hl.1, fun j => by rw [c2' 0 40 (by decide), q5 0 40 (by decide), c1' 0 40 (by decide)]; exact hl.2 j⟩
  rw [← hS2]
  have hs3 := L1.1
  by_cases hv0 : v < 0
  · -- refused: nothing has changed
    obtain ⟨z1, z2⟩ := q7 hv0
    have gTM : GM (T (nw T)) M := by
      rw [q2]
      exact GM_sc (fun c hc => by rw [q3 c hc, hneg hv0 c hc]) g1
    have rs := fun Q => c_same (S := S2) (i := 0) (j := 1) (fun k k1 k2 => by
      rw [e20, e21, hr0 k k1 k2, hr1 k k1 k2]
      exact TLO_eq hG.1.1 gTM.1.1 ⟨k1, k2⟩) Q
    have k2 := k12 S2
    have e3 : S2 0 23 3 = S1 0 23 3 := by rw [c2' 0 23 (by decide), z1]
    rw [e3] at k2
    generalize S1 0 23 3 = kept at *
    refine lg_sound (fun pc => pc == 208) 60 _ _ _ _ ?_
    repeat' first | (with_reducible refine lT ?_ ?_; · omega) | (with_reducible refine lF ?_ ?_; · omega) | (with_reducible refine lI (fun _ => ?_) (fun _ => ?_)) | (simp (config := {maxSteps := 1000000}) (disch := (first | assumption | omega | (rw [hr_at]; assumption) | (rw [hr_at]; omega))) only [f_L_law, lg_0, lg_s, lK_none, lK_N, lK_C, lK_R, lQ_some, lQ_none, stR, mZ, mC, stI, ini, mL, gI, gA, sI, sA, bi, gF, pF, kF, kT, kL, c2, mT, mR, f4, tsw, lsw, tgt, inR, Nat.reduceLT, Nat.reduceLeDiff, Nat.reduceEqDiff, Nat.reduceAdd, Nat.reduceSub, ↓reduceIte, Bool.false_eq_true, List.map_cons, List.map_nil, List.length_cons, List.length_nil, List.replicate, List.cons_append, List.nil_append, List.getElem?_cons_zero, List.getElem?_cons_succ, List.set, List.take_succ_cons, List.take_zero, List.drop_succ_cons, List.drop_zero, List.reverse_cons, List.reverse_nil, Int.reduceLE, Int.reduceLT, Int.reduceNeg, Int.reduceToNat, true_and, and_true, and_self, beq_iff_eq, Bool.and_eq_true, Bool.or_eq_true, or_false, false_or, or_true, true_or, and_false, false_and, hu_hr, hr_hr, hr_at, hr_nc, not_false_eq_true, Int.reduceEq, Int.pow_zero, Int.reducePow, Int.reduceMul, Int.reduceAdd, Int.reduceDiv, Int.reduceMod, Int.zero_add, Int.add_zero, Int.mul_one, Int.cast_ofNat_Int, rs, k2])
    exact at_208 (kk := kk) (by omega) he L2 (by rw [hS2]; exact al_GM gTM) (by omega) l2 hnext
  · have hv1 : 0 ≤ v := by omega
    obtain ⟨z1, z2⟩ := q6 hv1
    have rl := fun Q => c_low (S := S2) (v := g) (n := 4) (by omega) Q
    have lb := lwV_b g (n := 4) (by decide)
    by_cases hu : lwV g 4 = 0
    · -- taken back, and done again
      obtain ⟨U, hU⟩ : ∃ U, U = unS S2 := ⟨_, rfl⟩
      obtain ⟨u1, u2, u3, u4⟩ := un_heap2 (T := S2) L1 (by rw [c2' 0 23 (by decide), z1]) (by rw [c2' 0 24 (by decide), z2]) hU
      have hP2 := (LQ_P L2).1
      have ru := fun Q => c_undo (S := S2) hP2 L2.2.1.1 Q
      rw [← hU, u1] at ru
      have gU : GM (U (nw U)) M := by
        rw [u3]
        exact GM_cp (X := S1 (sp S1)) (P := S1 (nw S1)) (fun c hc => by rw [u4 (sp S1) c (by omega) (by omega), c2' (sp S1) c (by omega), q4 c hc]) g1
      generalize S1 0 23 3 = kept at *
      refine lg_sound (fun pc => pc == 154) 60 _ _ _ _ ?_
      repeat' first | (with_reducible refine lT ?_ ?_; · omega) | (with_reducible refine lF ?_ ?_; · omega) | (with_reducible refine lI (fun _ => ?_) (fun _ => ?_)) | (simp (config := {maxSteps := 1000000}) (disch := (first | assumption | omega | (rw [hr_at]; assumption) | (rw [hr_at]; omega))) only [f_L_law, lg_0, lg_s, lK_none, lK_N, lK_C, lK_R, lQ_some, lQ_none, stR, mZ, mC, stI, ini, mL, gI, gA, sI, sA, bi, gF, pF, kF, kT, kL, c2, mT, mR, f4, tsw, lsw, tgt, inR, Nat.reduceLT, Nat.reduceLeDiff, Nat.reduceEqDiff, Nat.reduceAdd, Nat.reduceSub, ↓reduceIte, Bool.false_eq_true, List.map_cons, List.map_nil, List.length_cons, List.length_nil, List.replicate, List.cons_append, List.nil_append, List.getElem?_cons_zero, List.getElem?_cons_succ, List.set, List.take_succ_cons, List.take_zero, List.drop_succ_cons, List.drop_zero, List.reverse_cons, List.reverse_nil, Int.reduceLE, Int.reduceLT, Int.reduceNeg, Int.reduceToNat, true_and, and_true, and_self, beq_iff_eq, Bool.and_eq_true, Bool.or_eq_true, or_false, false_or, or_true, true_or, and_false, false_and, hu_hr, hr_hr, hr_at, hr_nc, not_false_eq_true, Int.reduceEq, Int.pow_zero, Int.reducePow, Int.reduceMul, Int.reduceAdd, Int.reduceDiv, Int.reduceMod, Int.zero_add, Int.add_zero, Int.mul_one, Int.cast_ofNat_Int, rl, hu, ru])
      refine LTELL (kk := kk + 3) (i := 64) (r3 := 545) rfl (by decide) (by decide) gU (fun row2 hr2 => ?_)
      obtain ⟨S3, hS3⟩ : ∃ S3, S3 = hr U 2 30 row2 := ⟨_, rfl⟩
      have L3 : LQ S3 := by rw [hS3]; exact al_LQ u2
      have g3 : GM (S3 (nw S3)) M := by rw [hS3]; exact al_GM gU
      have c3' : ∀ k c : Nat, ¬ c = 30 → S3 k c = U k c := fun k c h => by rw [hS3, hr_nc h]
      have e30 : S3 0 30 = row0 := by rw [hS3, hr_nk (by decide), u4 0 30 (by decide) (by decide), e20]
      have e31 : S3 1 30 = row1 := by rw [hS3, hr_nk (by decide), u4 1 30 (by decide) (by decide), e21]
      have e32 : S3 2 30 = row2 := by rw [hS3, hr_at]
      rw [← hS3]
      have rs := fun Q => c_same (S := S3) (i := 2) (j := 0) (fun k k1 k2 => by
        rw [e32, e30, hr2 k k1 k2, hr0 k k1 k2]
        exact TLO_eq gU.1.1 hG.1.1 ⟨k1, k2⟩) Q
      obtain ⟨O3, rA3, gO3, -⟩ := hAc S3 L3 g3
      obtain ⟨T3, hT3⟩ : ∃ T3, T3 = edS (acS S3 O3) v := ⟨_, rfl⟩
      rw [← hT3] at rA3
      obtain ⟨w1, w2, w3, w4, w5, -, -⟩ := ed_heap L3 hT3
      have gT3 : GM (T3 (nw T3)) M' := by rw [w2]; exact GM_sc w3 gO3
      have fin : ∀ row3 : Int → Int, (∀ k : Int, 0 ≤ k → k < 59 → row3 k = TLO (T3 (nw T3)) k) → ∀ y9 ya yb yc yd ye yf yg yh : Option MV, LW P (kk + 2) 4 198 [some (.inr (0, 40)), some (.inr (0, 23)), some (.inl e), some (.inl g), some (.inl x), some (.inr (0, 30)), some (.inl kept), some (.inl v), some (.inr (1, 30)), y9, ya, yb, yc, yd, ye, yf, yg, yh] [.inr (3, 30)] (hr T3 3 30 row3) := by
        intro row3 hr3 y9 ya yb yc yd ye yf yg yh
        obtain ⟨S4, hS4⟩ : ∃ S4, S4 = hr T3 3 30 row3 := ⟨_, rfl⟩
        have L4 : LQ S4 := by rw [hS4]; exact al_LQ w1
        have g4 : GM (S4 (nw S4)) M' := by rw [hS4]; exact al_GM gT3
        have c4' : ∀ k c : Nat, ¬ c = 30 → S4 k c = T3 k c := fun k c h => by rw [hS4, hr_nc h]
        have e41 : S4 1 30 = row1 := by rw [hS4, hr_nk (by decide), w5 1 30 (by decide), e31]
        have e43 : S4 3 30 = row3 := by rw [hS4, hr_at]
        have l4 : S4 0 41 0 = Ln ∧ ∀ j, S4 0 40 j = xI xs j := ⟨by rw [c4' 0 41 (by decide), w5 0 41 (by decide), c3' 0 41 (by decide), u4 0 41 (by decide) (by decide)]; exact l2.1, fun j => by rw [c4' 0 40 (by decide), w5 0 40 (by decide), c3' 0 40 (by decide), u4 0 40 (by decide) (by decide)]; exact l2.2 j⟩
        rw [← hS4]
        have rs4 := fun Q => c_same (S := S4) (i := 3) (j := 1) (fun k k1 k2 => by
          rw [e43, e41, hr3 k k1 k2, hr1 k k1 k2]
          exact TLO_eq gT3.1.1 gT.1.1 ⟨k1, k2⟩) Q
        refine lg_sound (fun pc => pc == 208) 20 _ _ _ _ ?_
        repeat' first | (with_reducible refine lT ?_ ?_; · omega) | (with_reducible refine lF ?_ ?_; · omega) | (with_reducible refine lI (fun _ => ?_) (fun _ => ?_)) | (simp (config := {maxSteps := 1000000}) (disch := (first | assumption | omega | (rw [hr_at]; assumption) | (rw [hr_at]; omega))) only [f_L_law, lg_0, lg_s, lK_none, lK_N, lK_C, lK_R, lQ_some, lQ_none, stR, mZ, mC, stI, ini, mL, gI, gA, sI, sA, bi, gF, pF, kF, kT, kL, c2, mT, mR, f4, tsw, lsw, tgt, inR, Nat.reduceLT, Nat.reduceLeDiff, Nat.reduceEqDiff, Nat.reduceAdd, Nat.reduceSub, ↓reduceIte, Bool.false_eq_true, List.map_cons, List.map_nil, List.length_cons, List.length_nil, List.replicate, List.cons_append, List.nil_append, List.getElem?_cons_zero, List.getElem?_cons_succ, List.set, List.take_succ_cons, List.take_zero, List.drop_succ_cons, List.drop_zero, List.reverse_cons, List.reverse_nil, Int.reduceLE, Int.reduceLT, Int.reduceNeg, Int.reduceToNat, true_and, and_true, and_self, beq_iff_eq, Bool.and_eq_true, Bool.or_eq_true, or_false, false_or, or_true, true_or, and_false, false_and, hu_hr, hr_hr, hr_at, hr_nc, not_false_eq_true, Int.reduceEq, Int.pow_zero, Int.reducePow, Int.reduceMul, Int.reduceAdd, Int.reduceDiv, Int.reduceMod, Int.zero_add, Int.add_zero, Int.mul_one, Int.cast_ofNat_Int, rs4])
        exact at_208 (kk := kk) (by omega) he L4 g4 (by omega) l4 hnext
      by_cases h4 : kept = 4
      · rw [if_pos h4]
        refine lg_sound (fun pc => pc == 195) 60 _ _ _ _ ?_
        repeat' first | (with_reducible refine lT ?_ ?_; · omega) | (with_reducible refine lF ?_ ?_; · omega) | (with_reducible refine lI (fun _ => ?_) (fun _ => ?_)) | (simp (config := {maxSteps := 1000000}) (disch := (first | assumption | omega | (rw [hr_at]; assumption) | (rw [hr_at]; omega))) only [f_L_law, lg_0, lg_s, lK_none, lK_N, lK_C, lK_R, lQ_some, lQ_none, stR, mZ, mC, stI, ini, mL, gI, gA, sI, sA, bi, gF, pF, kF, kT, kL, c2, mT, mR, f4, tsw, lsw, tgt, inR, Nat.reduceLT, Nat.reduceLeDiff, Nat.reduceEqDiff, Nat.reduceAdd, Nat.reduceSub, ↓reduceIte, Bool.false_eq_true, List.map_cons, List.map_nil, List.length_cons, List.length_nil, List.replicate, List.cons_append, List.nil_append, List.getElem?_cons_zero, List.getElem?_cons_succ, List.set, List.take_succ_cons, List.take_zero, List.drop_succ_cons, List.drop_zero, List.reverse_cons, List.reverse_nil, Int.reduceLE, Int.reduceLT, Int.reduceNeg, Int.reduceToNat, true_and, and_true, and_self, beq_iff_eq, Bool.and_eq_true, Bool.or_eq_true, or_false, false_or, or_true, true_or, and_false, false_and, hu_hr, hr_hr, hr_at, hr_nc, not_false_eq_true, Int.reduceEq, Int.pow_zero, Int.reducePow, Int.reduceMul, Int.reduceAdd, Int.reduceDiv, Int.reduceMod, Int.zero_add, Int.add_zero, Int.mul_one, Int.cast_ofNat_Int, rs, rA3])
        refine LTELL (kk := kk + 2) (i := 64) (r3 := 545) rfl (by decide) (by decide) gT3 (fun row3 hr3 => ?_)
        exact fin row3 hr3 _ _ _ _ _ _ _ _ _
      · rw [if_neg h4]
        refine lg_sound (fun pc => pc == 195) 60 _ _ _ _ ?_
        repeat' first | (with_reducible refine lT ?_ ?_; · omega) | (with_reducible refine lF ?_ ?_; · omega) | (with_reducible refine lI (fun _ => ?_) (fun _ => ?_)) | (simp (config := {maxSteps := 1000000}) (disch := (first | assumption | omega | (rw [hr_at]; assumption) | (rw [hr_at]; omega))) only [f_L_law, lg_0, lg_s, lK_none, lK_N, lK_C, lK_R, lQ_some, lQ_none, stR, mZ, mC, stI, ini, mL, gI, gA, sI, sA, bi, gF, pF, kF, kT, kL, c2, mT, mR, f4, tsw, lsw, tgt, inR, Nat.reduceLT, Nat.reduceLeDiff, Nat.reduceEqDiff, Nat.reduceAdd, Nat.reduceSub, ↓reduceIte, Bool.false_eq_true, List.map_cons, List.map_nil, List.length_cons, List.length_nil, List.replicate, List.cons_append, List.nil_append, List.getElem?_cons_zero, List.getElem?_cons_succ, List.set, List.take_succ_cons, List.take_zero, List.drop_succ_cons, List.drop_zero, List.reverse_cons, List.reverse_nil, Int.reduceLE, Int.reduceLT, Int.reduceNeg, Int.reduceToNat, true_and, and_true, and_self, beq_iff_eq, Bool.and_eq_true, Bool.or_eq_true, or_false, false_or, or_true, true_or, and_false, false_and, hu_hr, hr_hr, hr_at, hr_nc, not_false_eq_true, Int.reduceEq, Int.pow_zero, Int.reducePow, Int.reduceMul, Int.reduceAdd, Int.reduceDiv, Int.reduceMod, Int.zero_add, Int.add_zero, Int.mul_one, Int.cast_ofNat_Int, rs, rA3])
        refine LTELL (kk := kk + 2) (i := 64) (r3 := 545) rfl (by decide) (by decide) gT3 (fun row3 hr3 => ?_)
        exact fin row3 hr3 _ _ _ _ _ _ _ _ _
    · refine lg_sound (fun pc => pc == 208) 60 _ _ _ _ ?_
      repeat' first | (with_reducible refine lT ?_ ?_; · omega) | (with_reducible refine lF ?_ ?_; · omega) | (with_reducible refine lI (fun _ => ?_) (fun _ => ?_)) | (simp (config := {maxSteps := 1000000}) (disch := (first | assumption | omega | (rw [hr_at]; assumption) | (rw [hr_at]; omega))) only [f_L_law, lg_0, lg_s, lK_none, lK_N, lK_C, lK_R, lQ_some, lQ_none, stR, mZ, mC, stI, ini, mL, gI, gA, sI, sA, bi, gF, pF, kF, kT, kL, c2, mT, mR, f4, tsw, lsw, tgt, inR, Nat.reduceLT, Nat.reduceLeDiff, Nat.reduceEqDiff, Nat.reduceAdd, Nat.reduceSub, ↓reduceIte, Bool.false_eq_true, List.map_cons, List.map_nil, List.length_cons, List.length_nil, List.replicate, List.cons_append, List.nil_append, List.getElem?_cons_zero, List.getElem?_cons_succ, List.set, List.take_succ_cons, List.take_zero, List.drop_succ_cons, List.drop_zero, List.reverse_cons, List.reverse_nil, Int.reduceLE, Int.reduceLT, Int.reduceNeg, Int.reduceToNat, true_and, and_true, and_self, beq_iff_eq, Bool.and_eq_true, Bool.or_eq_true, or_false, false_or, or_true, true_or, and_false, false_and, hu_hr, hr_hr, hr_at, hr_nc, not_false_eq_true, Int.reduceEq, Int.pow_zero, Int.reducePow, Int.reduceMul, Int.reduceAdd, Int.reduceDiv, Int.reduceMod, Int.zero_add, Int.add_zero, Int.mul_one, Int.cast_ofNat_Int, rl])
      exact at_208 (kk := kk) (by omega) he L2 g2 (by omega) l2 hnext
end BODY
