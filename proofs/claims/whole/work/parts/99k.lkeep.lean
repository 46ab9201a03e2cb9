/-! THE LAW: keep, undo, restore -/
set_option maxHeartbeats 4000000 in
set_option maxRecDepth 100000 in
theorem LO_keep {S : Hp} (h : LRel S) : Two S 89 [.inr (0, 23)] 173 [.inr (0, 30)] := by
  obtain ⟨h0, hD, hN, hH, hP, hX⟩ := id h
  obtain ⟨⟨a1, a2, a3⟩, ⟨b1, b2, b3⟩, c1, c3, c4⟩ := id hD
  have hn2 : ¬ nw S = 2 := by unfold nw; omega
  have hl := hN.1.1.2.2.2.2.2.2.1.1.1
  have r1 := fun Q => c_keep (S := S) hn2 Q
  rw [hl] at r1
  obtain ⟨W, hW⟩ : ∃ W, W = keS S := ⟨_, rfl⟩
  rw [← hW] at r1
  have w23 : W 0 23 = up (S 0 23) 5 1 := by rw [hW]; unfold keS; rw [hr_at]
  have wh : ∀ c : Nat, 23 < c → W 0 c = S 0 c := fun c hc => by rw [hW]; unfold keS; rw [hr_nc (by omega), ho_nc (by omega)]
  have w2 : ∀ c : Nat, c < 23 → W 2 c = cpO (S 2) (S (nw S)) c := fun c hc => by rw [hW]; unfold keS; rw [hr_nc (by omega), ho_at hc]
  have wo : ∀ k c : Nat, c < 23 → ¬ k = 2 → W k c = S k c := fun k c hc q => by rw [hW]; unfold keS; rw [hr_nc (by omega), ho_nk q]
  have r2 := fun Q => m_keep (S := W) Q
  rw [wh 30 (by decide), wh 31 (by decide), wh 32 (by decide)] at r2
  obtain ⟨T, hTd⟩ : ∃ T, T = hr (hr W 0 32 (cpF (S 0 32) (S 0 31) 3833)) 0 30 (up (S 0 30) 8 1) := ⟨_, rfl⟩
  rw [← hTd] at r2
  have t32 : T 0 32 = cpF (S 0 32) (S 0 31) 3833 := by rw [hTd, hr_nc (by decide), hr_at]
  have t30 : T 0 30 = up (S 0 30) 8 1 := by rw [hTd, hr_at]
  have tc : ∀ k c : Nat, ¬ c = 30 → ¬ c = 32 → T k c = W k c := fun k c q1 q2 => by rw [hTd, hr_nc q1, hr_nc q2]
  refine ⟨W, T, S 0 31 0, r1, wh 40 (by decide), wh 41 (by decide), r2, by rw [tc 0 40 (by decide) (by decide), wh 40 (by decide)], by rw [tc 0 41 (by decide) (by decide), wh 41 (by decide)], ?_⟩
  have t23 : T 0 23 = up (S 0 23) 5 1 := by rw [tc 0 23 (by decide) (by decide), w23]
  have tnw : nw T = nw S := by unfold nw; rw [t23, up_ne (by decide)]
  have e : ∀ c : Nat, 23 < c → ¬ c = 30 → ¬ c = 32 → T 0 c = S 0 c := fun c q q1 q2 => by rw [tc 0 c q1 q2, wh c q]
  unfold LRel TxL DsC
  rw [tnw, t23, t30, t32, e 24 (by decide) (by decide) (by decide), e 34 (by decide) (by decide) (by decide), e 29 (by decide) (by decide) (by decide), e 35 (by decide) (by decide) (by decide), e 25 (by decide) (by decide) (by decide), e 31 (by decide) (by decide) (by decide), up_ne (show ¬ (3 : Int) = 5 by decide), up_ne (show ¬ (0 : Int) = 5 by decide), up_ne (show ¬ (1 : Int) = 5 by decide), up_eq rfl, up_ne (show ¬ (6 : Int) = 8 by decide), up_ne (show ¬ (7 : Int) = 8 by decide), up_eq rfl, up_ne (show ¬ (10 : Int) = 8 by decide), up_ne (show ¬ (11 : Int) = 8 by decide)]
  refine ⟨h0, hD, Ok1_sc (fun c hc => by rw [tc _ c (by omega) (by omega), wo _ c hc hn2]) (fun _ _ _ => rfl) hN, fun k k1 k2 => ?_, ⟨Or.inr rfl, rfl, fun _ => ?_⟩, hX⟩
  · have q := b3 k k1 (by omega)
    have p := a3 k k1 (by omega)
    exact Ok1_sc (fun c hc => by rw [tc _ c (by omega) (by omega), wo _ c hc (by omega)]) (fun _ _ _ => rfl) (hH k k1 k2)
  · exact Ok1_sc (O := cpO (S 2) (S (nw S))) (M := S 0 31) (fun c hc => by rw [tc _ c (by omega) (by omega), w2 c hc]) (fun j j1 j2 => cpF_in ⟨j1, j2⟩) ⟨T1_eqo hN.1 (cpO_eq _ _), hN.2⟩
set_option maxHeartbeats 4000000 in
set_option maxRecDepth 100000 in
theorem c_restore0 {S : Hp} (h : S 0 23 5 = 0) (Q : Option MV → Hp → Prop) : Wc 90 [.inr (0, 23)] S Q = Q (some (.inl (-5))) S := by
  refine Wc_eq ?_ Q
  unfold Wc
  refine vg_sound (fun _ _ => false) (fun m => m == 90) 60 _ _ _ _ _ _ ?_
  repeat' first | (with_reducible refine vT ?_ ?_; · omega) | (with_reducible refine vF ?_ ?_; · omega) | (with_reducible refine vI (fun _ => ?_) (fun _ => ?_)) | (simp (config := {maxSteps := 1000000}) (disch := (first | assumption | omega | (rw [hr_at]; assumption) | (rw [hr_at]; omega))) only [f_X7_restore, wg_0, wg_s, wK_none, wK_N, wK_C, wK_R, wQ_some, wQ_none, stR, mZ, mC, stI, ini, mL, gI, gA, sI, sA, bi, gF, pF, kF, kT, kL, c2, mT, mR, f4, tsw, lsw, tgt, inR, Nat.reduceLT, Nat.reduceLeDiff, Nat.reduceEqDiff, Nat.reduceAdd, Nat.reduceSub, ↓reduceIte, Bool.false_eq_true, List.map_cons, List.map_nil, List.length_cons, List.length_nil, List.replicate, List.cons_append, List.nil_append, List.getElem?_cons_zero, List.getElem?_cons_succ, List.set, List.take_succ_cons, List.take_zero, List.drop_succ_cons, List.drop_zero, List.reverse_cons, List.reverse_nil, Int.reduceLE, Int.reduceLT, Int.reduceNeg, Int.reduceToNat, true_and, and_true, and_self, beq_iff_eq, Bool.and_eq_true, Bool.or_eq_true, or_false, false_or, or_true, true_or, and_false, false_and, hu_hr, hr_hr, hr_at, hr_nc, not_false_eq_true, Int.reduceEq, Int.pow_zero, Int.reducePow, Int.reduceMul, Int.reduceAdd, Int.reduceDiv, Int.reduceMod, Int.zero_add, Int.add_zero, Int.mul_one, Int.cast_ofNat_Int])
set_option maxHeartbeats 4000000 in
set_option maxRecDepth 100000 in
theorem LO_restore {S : Hp} (h : LRel S) : Two S 90 [.inr (0, 23)] 174 [.inr (0, 30)] := by
  obtain ⟨hP', hne⟩ := LR_PmB h
  obtain ⟨h0, hD, hN, hH, hP, hX⟩ := id h
  obtain ⟨⟨a1, a2, a3⟩, ⟨b1, b2, b3⟩, c1, c3, c4⟩ := id hD
  have hn2 : ¬ 2 = nw S := by unfold nw; omega
  have hs2 : ¬ 2 = sp S := by unfold sp; omega
  by_cases c : S 0 23 5 = 0
  · have r2 := fun Q => m_restore (S := S) (RR_R0k h) (by rw [hP.2.1]; exact hP.1) Q
    rw [hP.2.1, if_pos c, if_pos c] at r2
    exact two_same h (fun Q => c_restore0 c Q) r2
  · have c5 : S 0 23 5 = 1 := by omega
    have hK := hP.2.2 c5
    have hR : Ok1 (rsC S) (S 0 32) := ⟨T1_eqo hK.1 (cpO_eq _ _), hK.2⟩
    have e0 : rsC S 0 0 = S 0 32 0 := hR.1.1.2.2.2.2.2.2.1.1.1
    have l0 := hR.1.1.2.2.2.2.2.2.1.1.2.1
    have l9 := hR.2.2
    have r1 := fun Q => c_restore (S := S) hP' hne hn2 hs2 hP.1 (by rw [e0]; unfold tdR; omega) Q
    rw [if_neg c, if_neg c, e0] at r1
    obtain ⟨W, hW⟩ : ∃ W, W = edS (acS S (rsC S)) (S 0 32 0) := ⟨_, rfl⟩
    have wh : ∀ c : Nat, 24 < c → W 0 c = S 0 c := fun c hc => by rw [hW]; exact ed_nc hc
    have r2 := fun Q => m_restore (S := W) (by rw [wh 30 (by decide)]; exact RR_R0k h) (by rw [wh 30 (by decide), hP.2.1]; exact hP.1) Q
    rw [wh 30 (by decide), wh 31 (by decide), wh 32 (by decide), hP.2.1, if_neg c, if_neg c] at r2
    have hL := LR_ac3 (O' := rsC S) (M' := cpF (S 0 31) (S 0 32) 3833) (v := S 0 32 0) h (Ok1_sc (fun _ _ => rfl) (fun j j1 j2 => cpF_in ⟨j1, j2⟩) hR) l0 (fun j hj => cpF_out hj)
    rw [← hW] at r1 hL
    have c4' : ∀ c : Nat, 39 < c → hr (rcS W (S 0 31)) 0 31 (cpF (S 0 31) (S 0 32) 3833) 0 c = S 0 c := fun c hc => by
      rw [hr_nc (by omega)]
      unfold rcS
      rw [hr_nc (by omega), hr_nc (by omega), wh c (by omega)]
    exact ⟨W, _, _, r1, wh 40 (by decide), wh 41 (by decide), r2, c4' 40 (by decide), c4' 41 (by decide), hL⟩
